section
-- ===== PART A: goes FIRST, ahead of the names: the tables' words, and 'selects' of the private methods out of them =====
/-- a private method of a class that the tables say can be made, by its rows of tables_1 -/
def lw_okq (q : MethodName × Nat) : Prop := (q.1.cls ≠ "java/lang/invoke/MethodHandle" ∧ q.1.cls ≠ "java/lang/invoke/VarHandle") ∧ Cond.instantiable q.1.cls q.2 ∈ tables_1 ∧ Cond.privateMethod q.1 ∈ tables_1 ∧ Cond.instanceMethod q.1 ∈ tables_1
theorem lw_p0 : lw_okq (⟨"NestedEnvelopes$OrderText", "fits", "(II)Z"⟩, 2) := ⟨⟨by decide +kernel, by decide +kernel⟩, List.mem_of_getElem? (i := 100) (by decide +kernel), List.mem_of_getElem? (i := 159) (by decide +kernel), List.mem_of_getElem? (i := 160) (by decide +kernel)⟩
theorem lw_p1 : lw_okq (⟨"NestedEnvelopes$OrderText", "endsOrder", "(II)Z"⟩, 2) := ⟨⟨by decide +kernel, by decide +kernel⟩, List.mem_of_getElem? (i := 100) (by decide +kernel), List.mem_of_getElem? (i := 170) (by decide +kernel), List.mem_of_getElem? (i := 171) (by decide +kernel)⟩
theorem lw_p2 : lw_okq (⟨"NestedEnvelopes$OrderText", "fitsLay", "(II)Z"⟩, 2) := ⟨⟨by decide +kernel, by decide +kernel⟩, List.mem_of_getElem? (i := 100) (by decide +kernel), List.mem_of_getElem? (i := 174) (by decide +kernel), List.mem_of_getElem? (i := 175) (by decide +kernel)⟩
theorem lw_p3 : lw_okq (⟨"NestedEnvelopes$OrderText", "fitsBody", "(II)Z"⟩, 2) := ⟨⟨by decide +kernel, by decide +kernel⟩, List.mem_of_getElem? (i := 100) (by decide +kernel), List.mem_of_getElem? (i := 181) (by decide +kernel), List.mem_of_getElem? (i := 182) (by decide +kernel)⟩
theorem lw_p4 : lw_okq (⟨"NestedEnvelopes", "mixedInns", "(J)J"⟩, 3) := ⟨⟨by decide +kernel, by decide +kernel⟩, List.mem_of_getElem? (i := 16) (by decide +kernel), List.mem_of_getElem? (i := 201) (by decide +kernel), List.mem_of_getElem? (i := 202) (by decide +kernel)⟩
theorem lw_p5 : lw_okq (⟨"NestedEnvelopes$State", "placeOn", "(II)I"⟩, 12) := ⟨⟨by decide +kernel, by decide +kernel⟩, List.mem_of_getElem? (i := 24) (by decide +kernel), List.mem_of_getElem? (i := 220) (by decide +kernel), List.mem_of_getElem? (i := 221) (by decide +kernel)⟩
theorem lw_p6 : lw_okq (⟨"NestedEnvelopes", "mixedRoads", "(J)J"⟩, 3) := ⟨⟨by decide +kernel, by decide +kernel⟩, List.mem_of_getElem? (i := 16) (by decide +kernel), List.mem_of_getElem? (i := 245) (by decide +kernel), List.mem_of_getElem? (i := 246) (by decide +kernel)⟩
theorem lw_p7 : lw_okq (⟨"NestedEnvelopes", "mixedEnvelopes", "(J)J"⟩, 3) := ⟨⟨by decide +kernel, by decide +kernel⟩, List.mem_of_getElem? (i := 16) (by decide +kernel), List.mem_of_getElem? (i := 255) (by decide +kernel), List.mem_of_getElem? (i := 256) (by decide +kernel)⟩
theorem lw_p8 : lw_okq (⟨"NestedEnvelopes$State", "roadsThrough", "(I)I"⟩, 12) := ⟨⟨by decide +kernel, by decide +kernel⟩, List.mem_of_getElem? (i := 24) (by decide +kernel), List.mem_of_getElem? (i := 265) (by decide +kernel), List.mem_of_getElem? (i := 266) (by decide +kernel)⟩
theorem lw_p9 : lw_okq (⟨"java/lang/Throwable", "fillInStackTrace", "(I)Ljava/lang/Throwable;"⟩, 6) := ⟨⟨by decide +kernel, by decide +kernel⟩, List.mem_of_getElem? (i := 322) (by decide +kernel), List.mem_of_getElem? (i := 320) (by decide +kernel), List.mem_of_getElem? (i := 321) (by decide +kernel)⟩
theorem lw_p10 : lw_okq (⟨"NestedEnvelopes$SavedStates", "slotAt", "(I)LNestedEnvelopes$State;"⟩, 3) := ⟨⟨by decide +kernel, by decide +kernel⟩, List.mem_of_getElem? (i := 80) (by decide +kernel), List.mem_of_getElem? (i := 388) (by decide +kernel), List.mem_of_getElem? (i := 389) (by decide +kernel)⟩
theorem lw_p11 : lw_okq (⟨"NestedEnvelopes", "layFault", "(IIII)I"⟩, 3) := ⟨⟨by decide +kernel, by decide +kernel⟩, List.mem_of_getElem? (i := 16) (by decide +kernel), List.mem_of_getElem? (i := 472) (by decide +kernel), List.mem_of_getElem? (i := 473) (by decide +kernel)⟩
theorem lw_p12 : lw_okq (⟨"NestedEnvelopes$State", "putInn", "(III)V"⟩, 12) := ⟨⟨by decide +kernel, by decide +kernel⟩, List.mem_of_getElem? (i := 24) (by decide +kernel), List.mem_of_getElem? (i := 483) (by decide +kernel), List.mem_of_getElem? (i := 484) (by decide +kernel)⟩
theorem lw_p13 : lw_okq (⟨"NestedEnvelopes", "roadFault", "(I)I"⟩, 3) := ⟨⟨by decide +kernel, by decide +kernel⟩, List.mem_of_getElem? (i := 16) (by decide +kernel), List.mem_of_getElem? (i := 511) (by decide +kernel), List.mem_of_getElem? (i := 512) (by decide +kernel)⟩
theorem lw_p14 : lw_okq (⟨"NestedEnvelopes", "sendFault", "(II)I"⟩, 3) := ⟨⟨by decide +kernel, by decide +kernel⟩, List.mem_of_getElem? (i := 16) (by decide +kernel), List.mem_of_getElem? (i := 551) (by decide +kernel), List.mem_of_getElem? (i := 552) (by decide +kernel)⟩
theorem lw_p15 : lw_okq (⟨"NestedEnvelopes$State", "keyAt", "(II)I"⟩, 12) := ⟨⟨by decide +kernel, by decide +kernel⟩, List.mem_of_getElem? (i := 24) (by decide +kernel), List.mem_of_getElem? (i := 559) (by decide +kernel), List.mem_of_getElem? (i := 560) (by decide +kernel)⟩
def lw_privs_1 : List (MethodName × Nat) := [(⟨"NestedEnvelopes$OrderText", "fits", "(II)Z"⟩, 2), (⟨"NestedEnvelopes$OrderText", "endsOrder", "(II)Z"⟩, 2), (⟨"NestedEnvelopes$OrderText", "fitsLay", "(II)Z"⟩, 2), (⟨"NestedEnvelopes$OrderText", "fitsBody", "(II)Z"⟩, 2), (⟨"NestedEnvelopes", "mixedInns", "(J)J"⟩, 3), (⟨"NestedEnvelopes$State", "placeOn", "(II)I"⟩, 12), (⟨"NestedEnvelopes", "mixedRoads", "(J)J"⟩, 3), (⟨"NestedEnvelopes", "mixedEnvelopes", "(J)J"⟩, 3), (⟨"NestedEnvelopes$State", "roadsThrough", "(I)I"⟩, 12), (⟨"java/lang/Throwable", "fillInStackTrace", "(I)Ljava/lang/Throwable;"⟩, 6), (⟨"NestedEnvelopes$SavedStates", "slotAt", "(I)LNestedEnvelopes$State;"⟩, 3), (⟨"NestedEnvelopes", "layFault", "(IIII)I"⟩, 3), (⟨"NestedEnvelopes$State", "putInn", "(III)V"⟩, 12), (⟨"NestedEnvelopes", "roadFault", "(I)I"⟩, 3), (⟨"NestedEnvelopes", "sendFault", "(II)I"⟩, 3), (⟨"NestedEnvelopes$State", "keyAt", "(II)I"⟩, 12)]
theorem lw_r1 : ∀ q ∈ lw_privs_1, lw_okq q := List.forall_mem_cons.mpr ⟨lw_p0, List.forall_mem_cons.mpr ⟨lw_p1, List.forall_mem_cons.mpr ⟨lw_p2, List.forall_mem_cons.mpr ⟨lw_p3, List.forall_mem_cons.mpr ⟨lw_p4, List.forall_mem_cons.mpr ⟨lw_p5, List.forall_mem_cons.mpr ⟨lw_p6, List.forall_mem_cons.mpr ⟨lw_p7, List.forall_mem_cons.mpr ⟨lw_p8, List.forall_mem_cons.mpr ⟨lw_p9, List.forall_mem_cons.mpr ⟨lw_p10, List.forall_mem_cons.mpr ⟨lw_p11, List.forall_mem_cons.mpr ⟨lw_p12, List.forall_mem_cons.mpr ⟨lw_p13, List.forall_mem_cons.mpr ⟨lw_p14, List.forall_mem_cons.mpr ⟨lw_p15, fun _ h => absurd h List.not_mem_nil⟩⟩⟩⟩⟩⟩⟩⟩⟩⟩⟩⟩⟩⟩⟩⟩
theorem lw_p16 : lw_okq (⟨"NestedEnvelopes$State", "countUp", "(I)V"⟩, 12) := ⟨⟨by decide +kernel, by decide +kernel⟩, List.mem_of_getElem? (i := 24) (by decide +kernel), List.mem_of_getElem? (i := 564) (by decide +kernel), List.mem_of_getElem? (i := 565) (by decide +kernel)⟩
theorem lw_p17 : lw_okq (⟨"NestedEnvelopes$State", "addEnvelope", "(IIII)I"⟩, 12) := ⟨⟨by decide +kernel, by decide +kernel⟩, List.mem_of_getElem? (i := 24) (by decide +kernel), List.mem_of_getElem? (i := 568) (by decide +kernel), List.mem_of_getElem? (i := 569) (by decide +kernel)⟩
theorem lw_p18 : lw_okq (⟨"NestedEnvelopes$State", "putNumber", "(III)V"⟩, 12) := ⟨⟨by decide +kernel, by decide +kernel⟩, List.mem_of_getElem? (i := 24) (by decide +kernel), List.mem_of_getElem? (i := 572) (by decide +kernel), List.mem_of_getElem? (i := 573) (by decide +kernel)⟩
theorem lw_p19 : lw_okq (⟨"NestedEnvelopes", "answerFault", "(II)I"⟩, 3) := ⟨⟨by decide +kernel, by decide +kernel⟩, List.mem_of_getElem? (i := 16) (by decide +kernel), List.mem_of_getElem? (i := 583) (by decide +kernel), List.mem_of_getElem? (i := 584) (by decide +kernel)⟩
theorem lw_p20 : lw_okq (⟨"NestedEnvelopes$State", "moveOn", "(I)Z"⟩, 12) := ⟨⟨by decide +kernel, by decide +kernel⟩, List.mem_of_getElem? (i := 24) (by decide +kernel), List.mem_of_getElem? (i := 603) (by decide +kernel), List.mem_of_getElem? (i := 604) (by decide +kernel)⟩
theorem lw_p21 : lw_okq (⟨"NestedEnvelopes$State", "reachHall", "(I)V"⟩, 12) := ⟨⟨by decide +kernel, by decide +kernel⟩, List.mem_of_getElem? (i := 24) (by decide +kernel), List.mem_of_getElem? (i := 607) (by decide +kernel), List.mem_of_getElem? (i := 608) (by decide +kernel)⟩
theorem lw_p22 : lw_okq (⟨"NestedEnvelopes$State", "reachTraveller", "(I)V"⟩, 12) := ⟨⟨by decide +kernel, by decide +kernel⟩, List.mem_of_getElem? (i := 24) (by decide +kernel), List.mem_of_getElem? (i := 611) (by decide +kernel), List.mem_of_getElem? (i := 612) (by decide +kernel)⟩
theorem lw_p23 : lw_okq (⟨"NestedEnvelopes$State", "reachInn", "(II)V"⟩, 12) := ⟨⟨by decide +kernel, by decide +kernel⟩, List.mem_of_getElem? (i := 24) (by decide +kernel), List.mem_of_getElem? (i := 616) (by decide +kernel), List.mem_of_getElem? (i := 617) (by decide +kernel)⟩
theorem lw_p24 : lw_okq (⟨"NestedEnvelopes$State", "takeOutGone", "()V"⟩, 12) := ⟨⟨by decide +kernel, by decide +kernel⟩, List.mem_of_getElem? (i := 24) (by decide +kernel), List.mem_of_getElem? (i := 620) (by decide +kernel), List.mem_of_getElem? (i := 621) (by decide +kernel)⟩
theorem lw_p25 : lw_okq (⟨"NestedEnvelopes", "envelopeFault", "(I)I"⟩, 3) := ⟨⟨by decide +kernel, by decide +kernel⟩, List.mem_of_getElem? (i := 16) (by decide +kernel), List.mem_of_getElem? (i := 631) (by decide +kernel), List.mem_of_getElem? (i := 632) (by decide +kernel)⟩
theorem lw_p26 : lw_okq (⟨"NestedEnvelopes$OrderText", "lastStart", "()I"⟩, 2) := ⟨⟨by decide +kernel, by decide +kernel⟩, List.mem_of_getElem? (i := 100) (by decide +kernel), List.mem_of_getElem? (i := 696) (by decide +kernel), List.mem_of_getElem? (i := 697) (by decide +kernel)⟩
theorem lw_p27 : lw_okq (⟨"NestedEnvelopes", "executeOrder", "(II)Z"⟩, 3) := ⟨⟨by decide +kernel, by decide +kernel⟩, List.mem_of_getElem? (i := 16) (by decide +kernel), List.mem_of_getElem? (i := 702) (by decide +kernel), List.mem_of_getElem? (i := 703) (by decide +kernel)⟩
theorem lw_p28 : lw_okq (⟨"NestedEnvelopes", "layIfFine", "(IIII)Z"⟩, 3) := ⟨⟨by decide +kernel, by decide +kernel⟩, List.mem_of_getElem? (i := 16) (by decide +kernel), List.mem_of_getElem? (i := 710) (by decide +kernel), List.mem_of_getElem? (i := 711) (by decide +kernel)⟩
theorem lw_p29 : lw_okq (⟨"NestedEnvelopes", "sendIfFine", "(II)Z"⟩, 3) := ⟨⟨by decide +kernel, by decide +kernel⟩, List.mem_of_getElem? (i := 16) (by decide +kernel), List.mem_of_getElem? (i := 719) (by decide +kernel), List.mem_of_getElem? (i := 720) (by decide +kernel)⟩
theorem lw_p30 : lw_okq (⟨"NestedEnvelopes", "answerIfFine", "(II)Z"⟩, 3) := ⟨⟨by decide +kernel, by decide +kernel⟩, List.mem_of_getElem? (i := 16) (by decide +kernel), List.mem_of_getElem? (i := 723) (by decide +kernel), List.mem_of_getElem? (i := 724) (by decide +kernel)⟩
theorem lw_p31 : lw_okq (⟨"NestedEnvelopesModel", "holds", "(I)Z"⟩, 12) := ⟨⟨by decide +kernel, by decide +kernel⟩, List.mem_of_getElem? (i := 739) (by decide +kernel), List.mem_of_getElem? (i := 796) (by decide +kernel), List.mem_of_getElem? (i := 797) (by decide +kernel)⟩
def lw_privs_2 : List (MethodName × Nat) := [(⟨"NestedEnvelopes$State", "countUp", "(I)V"⟩, 12), (⟨"NestedEnvelopes$State", "addEnvelope", "(IIII)I"⟩, 12), (⟨"NestedEnvelopes$State", "putNumber", "(III)V"⟩, 12), (⟨"NestedEnvelopes", "answerFault", "(II)I"⟩, 3), (⟨"NestedEnvelopes$State", "moveOn", "(I)Z"⟩, 12), (⟨"NestedEnvelopes$State", "reachHall", "(I)V"⟩, 12), (⟨"NestedEnvelopes$State", "reachTraveller", "(I)V"⟩, 12), (⟨"NestedEnvelopes$State", "reachInn", "(II)V"⟩, 12), (⟨"NestedEnvelopes$State", "takeOutGone", "()V"⟩, 12), (⟨"NestedEnvelopes", "envelopeFault", "(I)I"⟩, 3), (⟨"NestedEnvelopes$OrderText", "lastStart", "()I"⟩, 2), (⟨"NestedEnvelopes", "executeOrder", "(II)Z"⟩, 3), (⟨"NestedEnvelopes", "layIfFine", "(IIII)Z"⟩, 3), (⟨"NestedEnvelopes", "sendIfFine", "(II)Z"⟩, 3), (⟨"NestedEnvelopes", "answerIfFine", "(II)Z"⟩, 3), (⟨"NestedEnvelopesModel", "holds", "(I)Z"⟩, 12)]
theorem lw_r2 : ∀ q ∈ lw_privs_2, lw_okq q := List.forall_mem_cons.mpr ⟨lw_p16, List.forall_mem_cons.mpr ⟨lw_p17, List.forall_mem_cons.mpr ⟨lw_p18, List.forall_mem_cons.mpr ⟨lw_p19, List.forall_mem_cons.mpr ⟨lw_p20, List.forall_mem_cons.mpr ⟨lw_p21, List.forall_mem_cons.mpr ⟨lw_p22, List.forall_mem_cons.mpr ⟨lw_p23, List.forall_mem_cons.mpr ⟨lw_p24, List.forall_mem_cons.mpr ⟨lw_p25, List.forall_mem_cons.mpr ⟨lw_p26, List.forall_mem_cons.mpr ⟨lw_p27, List.forall_mem_cons.mpr ⟨lw_p28, List.forall_mem_cons.mpr ⟨lw_p29, List.forall_mem_cons.mpr ⟨lw_p30, List.forall_mem_cons.mpr ⟨lw_p31, fun _ h => absurd h List.not_mem_nil⟩⟩⟩⟩⟩⟩⟩⟩⟩⟩⟩⟩⟩⟩⟩⟩
theorem lw_p32 : lw_okq (⟨"NestedEnvelopesModel", "changed", "(II)I"⟩, 12) := ⟨⟨by decide +kernel, by decide +kernel⟩, List.mem_of_getElem? (i := 739) (by decide +kernel), List.mem_of_getElem? (i := 800) (by decide +kernel), List.mem_of_getElem? (i := 801) (by decide +kernel)⟩
theorem lw_p33 : lw_okq (⟨"NestedEnvelopesModel", "save", "()V"⟩, 12) := ⟨⟨by decide +kernel, by decide +kernel⟩, List.mem_of_getElem? (i := 739) (by decide +kernel), List.mem_of_getElem? (i := 804) (by decide +kernel), List.mem_of_getElem? (i := 805) (by decide +kernel)⟩
theorem lw_p34 : lw_okq (⟨"NestedEnvelopesModel", "copies", "(II)V"⟩, 12) := ⟨⟨by decide +kernel, by decide +kernel⟩, List.mem_of_getElem? (i := 739) (by decide +kernel), List.mem_of_getElem? (i := 808) (by decide +kernel), List.mem_of_getElem? (i := 809) (by decide +kernel)⟩
theorem lw_p35 : lw_okq (⟨"NestedEnvelopesModel", "isOpenNow", "(I)Z"⟩, 12) := ⟨⟨by decide +kernel, by decide +kernel⟩, List.mem_of_getElem? (i := 739) (by decide +kernel), List.mem_of_getElem? (i := 823) (by decide +kernel), List.mem_of_getElem? (i := 824) (by decide +kernel)⟩
theorem lw_p36 : lw_okq (⟨"NestedEnvelopesModel", "canLay", "(III)Z"⟩, 12) := ⟨⟨by decide +kernel, by decide +kernel⟩, List.mem_of_getElem? (i := 739) (by decide +kernel), List.mem_of_getElem? (i := 852) (by decide +kernel), List.mem_of_getElem? (i := 853) (by decide +kernel)⟩
theorem lw_p37 : lw_okq (⟨"NestedEnvelopesModel", "lays", "(IIII)I"⟩, 12) := ⟨⟨by decide +kernel, by decide +kernel⟩, List.mem_of_getElem? (i := 739) (by decide +kernel), List.mem_of_getElem? (i := 856) (by decide +kernel), List.mem_of_getElem? (i := 857) (by decide +kernel)⟩
theorem lw_p38 : lw_okq (⟨"NestedEnvelopesModel", "canTakeUp", "()Z"⟩, 12) := ⟨⟨by decide +kernel, by decide +kernel⟩, List.mem_of_getElem? (i := 739) (by decide +kernel), List.mem_of_getElem? (i := 864) (by decide +kernel), List.mem_of_getElem? (i := 865) (by decide +kernel)⟩
theorem lw_p39 : lw_okq (⟨"NestedEnvelopesModel", "of", "(II)I"⟩, 12) := ⟨⟨by decide +kernel, by decide +kernel⟩, List.mem_of_getElem? (i := 739) (by decide +kernel), List.mem_of_getElem? (i := 868) (by decide +kernel), List.mem_of_getElem? (i := 869) (by decide +kernel)⟩
theorem lw_p40 : lw_okq (⟨"NestedEnvelopesModel", "told", "(I)I"⟩, 12) := ⟨⟨by decide +kernel, by decide +kernel⟩, List.mem_of_getElem? (i := 739) (by decide +kernel), List.mem_of_getElem? (i := 876) (by decide +kernel), List.mem_of_getElem? (i := 877) (by decide +kernel)⟩
theorem lw_p41 : lw_okq (⟨"NestedEnvelopesModel", "isRoad", "(I)Z"⟩, 12) := ⟨⟨by decide +kernel, by decide +kernel⟩, List.mem_of_getElem? (i := 739) (by decide +kernel), List.mem_of_getElem? (i := 884) (by decide +kernel), List.mem_of_getElem? (i := 885) (by decide +kernel)⟩
theorem lw_p42 : lw_okq (⟨"NestedEnvelopesModel", "innOf", "(II)I"⟩, 12) := ⟨⟨by decide +kernel, by decide +kernel⟩, List.mem_of_getElem? (i := 739) (by decide +kernel), List.mem_of_getElem? (i := 888) (by decide +kernel), List.mem_of_getElem? (i := 889) (by decide +kernel)⟩
theorem lw_p43 : lw_okq (⟨"NestedEnvelopesModel", "hallOf", "(I)I"⟩, 12) := ⟨⟨by decide +kernel, by decide +kernel⟩, List.mem_of_getElem? (i := 739) (by decide +kernel), List.mem_of_getElem? (i := 896) (by decide +kernel), List.mem_of_getElem? (i := 897) (by decide +kernel)⟩
theorem lw_p44 : lw_okq (⟨"NestedEnvelopesModel", "standsNow", "(I)Z"⟩, 12) := ⟨⟨by decide +kernel, by decide +kernel⟩, List.mem_of_getElem? (i := 739) (by decide +kernel), List.mem_of_getElem? (i := 904) (by decide +kernel), List.mem_of_getElem? (i := 905) (by decide +kernel)⟩
theorem lw_p45 : lw_okq (⟨"NestedEnvelopesModel", "seen", "(III)I"⟩, 12) := ⟨⟨by decide +kernel, by decide +kernel⟩, List.mem_of_getElem? (i := 739) (by decide +kernel), List.mem_of_getElem? (i := 912) (by decide +kernel), List.mem_of_getElem? (i := 913) (by decide +kernel)⟩
theorem lw_p46 : lw_okq (⟨"NestedEnvelopesModel", "placeOn", "(II)I"⟩, 12) := ⟨⟨by decide +kernel, by decide +kernel⟩, List.mem_of_getElem? (i := 739) (by decide +kernel), List.mem_of_getElem? (i := 916) (by decide +kernel), List.mem_of_getElem? (i := 917) (by decide +kernel)⟩
theorem lw_p47 : lw_okq (⟨"NestedEnvelopesModel", "knownTo", "(I)I"⟩, 12) := ⟨⟨by decide +kernel, by decide +kernel⟩, List.mem_of_getElem? (i := 739) (by decide +kernel), List.mem_of_getElem? (i := 924) (by decide +kernel), List.mem_of_getElem? (i := 925) (by decide +kernel)⟩
def lw_privs_3 : List (MethodName × Nat) := [(⟨"NestedEnvelopesModel", "changed", "(II)I"⟩, 12), (⟨"NestedEnvelopesModel", "save", "()V"⟩, 12), (⟨"NestedEnvelopesModel", "copies", "(II)V"⟩, 12), (⟨"NestedEnvelopesModel", "isOpenNow", "(I)Z"⟩, 12), (⟨"NestedEnvelopesModel", "canLay", "(III)Z"⟩, 12), (⟨"NestedEnvelopesModel", "lays", "(IIII)I"⟩, 12), (⟨"NestedEnvelopesModel", "canTakeUp", "()Z"⟩, 12), (⟨"NestedEnvelopesModel", "of", "(II)I"⟩, 12), (⟨"NestedEnvelopesModel", "told", "(I)I"⟩, 12), (⟨"NestedEnvelopesModel", "isRoad", "(I)Z"⟩, 12), (⟨"NestedEnvelopesModel", "innOf", "(II)I"⟩, 12), (⟨"NestedEnvelopesModel", "hallOf", "(I)I"⟩, 12), (⟨"NestedEnvelopesModel", "standsNow", "(I)Z"⟩, 12), (⟨"NestedEnvelopesModel", "seen", "(III)I"⟩, 12), (⟨"NestedEnvelopesModel", "placeOn", "(II)I"⟩, 12), (⟨"NestedEnvelopesModel", "knownTo", "(I)I"⟩, 12)]
theorem lw_r3 : ∀ q ∈ lw_privs_3, lw_okq q := List.forall_mem_cons.mpr ⟨lw_p32, List.forall_mem_cons.mpr ⟨lw_p33, List.forall_mem_cons.mpr ⟨lw_p34, List.forall_mem_cons.mpr ⟨lw_p35, List.forall_mem_cons.mpr ⟨lw_p36, List.forall_mem_cons.mpr ⟨lw_p37, List.forall_mem_cons.mpr ⟨lw_p38, List.forall_mem_cons.mpr ⟨lw_p39, List.forall_mem_cons.mpr ⟨lw_p40, List.forall_mem_cons.mpr ⟨lw_p41, List.forall_mem_cons.mpr ⟨lw_p42, List.forall_mem_cons.mpr ⟨lw_p43, List.forall_mem_cons.mpr ⟨lw_p44, List.forall_mem_cons.mpr ⟨lw_p45, List.forall_mem_cons.mpr ⟨lw_p46, List.forall_mem_cons.mpr ⟨lw_p47, fun _ h => absurd h List.not_mem_nil⟩⟩⟩⟩⟩⟩⟩⟩⟩⟩⟩⟩⟩⟩⟩⟩
theorem lw_p48 : lw_okq (⟨"NestedEnvelopesModel", "isRoom", "()Z"⟩, 12) := ⟨⟨by decide +kernel, by decide +kernel⟩, List.mem_of_getElem? (i := 739) (by decide +kernel), List.mem_of_getElem? (i := 932) (by decide +kernel), List.mem_of_getElem? (i := 933) (by decide +kernel)⟩
theorem lw_p49 : lw_okq (⟨"NestedEnvelopesModel", "sends", "(II)I"⟩, 12) := ⟨⟨by decide +kernel, by decide +kernel⟩, List.mem_of_getElem? (i := 739) (by decide +kernel), List.mem_of_getElem? (i := 936) (by decide +kernel), List.mem_of_getElem? (i := 937) (by decide +kernel)⟩
theorem lw_p50 : lw_okq (⟨"NestedEnvelopesModel", "keyOf", "(II)I"⟩, 12) := ⟨⟨by decide +kernel, by decide +kernel⟩, List.mem_of_getElem? (i := 739) (by decide +kernel), List.mem_of_getElem? (i := 940) (by decide +kernel), List.mem_of_getElem? (i := 941) (by decide +kernel)⟩
theorem lw_p51 : lw_okq (⟨"NestedEnvelopesModel", "puts", "(IIII)I"⟩, 12) := ⟨⟨by decide +kernel, by decide +kernel⟩, List.mem_of_getElem? (i := 739) (by decide +kernel), List.mem_of_getElem? (i := 944) (by decide +kernel), List.mem_of_getElem? (i := 945) (by decide +kernel)⟩
theorem lw_p52 : lw_okq (⟨"NestedEnvelopesModel", "lay4", "(III)V"⟩, 12) := ⟨⟨by decide +kernel, by decide +kernel⟩, List.mem_of_getElem? (i := 739) (by decide +kernel), List.mem_of_getElem? (i := 948) (by decide +kernel), List.mem_of_getElem? (i := 949) (by decide +kernel)⟩
theorem lw_p53 : lw_okq (⟨"NestedEnvelopesModel", "canAnswer", "(I)Z"⟩, 12) := ⟨⟨by decide +kernel, by decide +kernel⟩, List.mem_of_getElem? (i := 739) (by decide +kernel), List.mem_of_getElem? (i := 956) (by decide +kernel), List.mem_of_getElem? (i := 957) (by decide +kernel)⟩
theorem lw_p54 : lw_okq (⟨"NestedEnvelopesModel", "answers", "(II)I"⟩, 12) := ⟨⟨by decide +kernel, by decide +kernel⟩, List.mem_of_getElem? (i := 739) (by decide +kernel), List.mem_of_getElem? (i := 960) (by decide +kernel), List.mem_of_getElem? (i := 961) (by decide +kernel)⟩
theorem lw_p55 : lw_okq (⟨"NestedEnvelopesModel", "passes", "(I)I"⟩, 12) := ⟨⟨by decide +kernel, by decide +kernel⟩, List.mem_of_getElem? (i := 739) (by decide +kernel), List.mem_of_getElem? (i := 968) (by decide +kernel), List.mem_of_getElem? (i := 969) (by decide +kernel)⟩
theorem lw_p56 : lw_okq (⟨"NestedEnvelopesModel", "ticks", "()V"⟩, 12) := ⟨⟨by decide +kernel, by decide +kernel⟩, List.mem_of_getElem? (i := 739) (by decide +kernel), List.mem_of_getElem? (i := 972) (by decide +kernel), List.mem_of_getElem? (i := 973) (by decide +kernel)⟩
theorem lw_p57 : lw_okq (⟨"NestedEnvelopesModel", "moves", "(I)V"⟩, 12) := ⟨⟨by decide +kernel, by decide +kernel⟩, List.mem_of_getElem? (i := 739) (by decide +kernel), List.mem_of_getElem? (i := 976) (by decide +kernel), List.mem_of_getElem? (i := 977) (by decide +kernel)⟩
theorem lw_p58 : lw_okq (⟨"NestedEnvelopesModel", "arrives", "(I)V"⟩, 12) := ⟨⟨by decide +kernel, by decide +kernel⟩, List.mem_of_getElem? (i := 739) (by decide +kernel), List.mem_of_getElem? (i := 980) (by decide +kernel), List.mem_of_getElem? (i := 981) (by decide +kernel)⟩
theorem lw_p59 : lw_okq (⟨"NestedEnvelopesModel", "leaves", "(I)V"⟩, 12) := ⟨⟨by decide +kernel, by decide +kernel⟩, List.mem_of_getElem? (i := 739) (by decide +kernel), List.mem_of_getElem? (i := 984) (by decide +kernel), List.mem_of_getElem? (i := 985) (by decide +kernel)⟩
theorem lw_p60 : lw_okq (⟨"NestedEnvelopesModel", "isEnvelope", "(I)Z"⟩, 12) := ⟨⟨by decide +kernel, by decide +kernel⟩, List.mem_of_getElem? (i := 739) (by decide +kernel), List.mem_of_getElem? (i := 996) (by decide +kernel), List.mem_of_getElem? (i := 997) (by decide +kernel)⟩
theorem lw_p61 : lw_okq (⟨"NestedEnvelopesModel", "lostBy", "(I)I"⟩, 12) := ⟨⟨by decide +kernel, by decide +kernel⟩, List.mem_of_getElem? (i := 739) (by decide +kernel), List.mem_of_getElem? (i := 1020) (by decide +kernel), List.mem_of_getElem? (i := 1021) (by decide +kernel)⟩
theorem lw_p62 : lw_okq (⟨"NestedEnvelopesModel", "arrivesIn", "(II)I"⟩, 12) := ⟨⟨by decide +kernel, by decide +kernel⟩, List.mem_of_getElem? (i := 739) (by decide +kernel), List.mem_of_getElem? (i := 1024) (by decide +kernel), List.mem_of_getElem? (i := 1025) (by decide +kernel)⟩
theorem lw_p63 : lw_okq (⟨"NestedEnvelopesModel", "least", "(I)I"⟩, 12) := ⟨⟨by decide +kernel, by decide +kernel⟩, List.mem_of_getElem? (i := 739) (by decide +kernel), List.mem_of_getElem? (i := 1036) (by decide +kernel), List.mem_of_getElem? (i := 1037) (by decide +kernel)⟩
def lw_privs_4 : List (MethodName × Nat) := [(⟨"NestedEnvelopesModel", "isRoom", "()Z"⟩, 12), (⟨"NestedEnvelopesModel", "sends", "(II)I"⟩, 12), (⟨"NestedEnvelopesModel", "keyOf", "(II)I"⟩, 12), (⟨"NestedEnvelopesModel", "puts", "(IIII)I"⟩, 12), (⟨"NestedEnvelopesModel", "lay4", "(III)V"⟩, 12), (⟨"NestedEnvelopesModel", "canAnswer", "(I)Z"⟩, 12), (⟨"NestedEnvelopesModel", "answers", "(II)I"⟩, 12), (⟨"NestedEnvelopesModel", "passes", "(I)I"⟩, 12), (⟨"NestedEnvelopesModel", "ticks", "()V"⟩, 12), (⟨"NestedEnvelopesModel", "moves", "(I)V"⟩, 12), (⟨"NestedEnvelopesModel", "arrives", "(I)V"⟩, 12), (⟨"NestedEnvelopesModel", "leaves", "(I)V"⟩, 12), (⟨"NestedEnvelopesModel", "isEnvelope", "(I)Z"⟩, 12), (⟨"NestedEnvelopesModel", "lostBy", "(I)I"⟩, 12), (⟨"NestedEnvelopesModel", "arrivesIn", "(II)I"⟩, 12), (⟨"NestedEnvelopesModel", "least", "(I)I"⟩, 12)]
theorem lw_r4 : ∀ q ∈ lw_privs_4, lw_okq q := List.forall_mem_cons.mpr ⟨lw_p48, List.forall_mem_cons.mpr ⟨lw_p49, List.forall_mem_cons.mpr ⟨lw_p50, List.forall_mem_cons.mpr ⟨lw_p51, List.forall_mem_cons.mpr ⟨lw_p52, List.forall_mem_cons.mpr ⟨lw_p53, List.forall_mem_cons.mpr ⟨lw_p54, List.forall_mem_cons.mpr ⟨lw_p55, List.forall_mem_cons.mpr ⟨lw_p56, List.forall_mem_cons.mpr ⟨lw_p57, List.forall_mem_cons.mpr ⟨lw_p58, List.forall_mem_cons.mpr ⟨lw_p59, List.forall_mem_cons.mpr ⟨lw_p60, List.forall_mem_cons.mpr ⟨lw_p61, List.forall_mem_cons.mpr ⟨lw_p62, List.forall_mem_cons.mpr ⟨lw_p63, fun _ h => absurd h List.not_mem_nil⟩⟩⟩⟩⟩⟩⟩⟩⟩⟩⟩⟩⟩⟩⟩⟩
theorem lw_p64 : lw_okq (⟨"NestedEnvelopesModel", "work", "(I)I"⟩, 12) := ⟨⟨by decide +kernel, by decide +kernel⟩, List.mem_of_getElem? (i := 739) (by decide +kernel), List.mem_of_getElem? (i := 1040) (by decide +kernel), List.mem_of_getElem? (i := 1041) (by decide +kernel)⟩
theorem lw_p65 : lw_okq (⟨"NestedEnvelopesModel", "areOrders", "()Z"⟩, 12) := ⟨⟨by decide +kernel, by decide +kernel⟩, List.mem_of_getElem? (i := 739) (by decide +kernel), List.mem_of_getElem? (i := 1056) (by decide +kernel), List.mem_of_getElem? (i := 1057) (by decide +kernel)⟩
theorem lw_p66 : lw_okq (⟨"NestedEnvelopesModel", "readsOrder", "()Z"⟩, 12) := ⟨⟨by decide +kernel, by decide +kernel⟩, List.mem_of_getElem? (i := 739) (by decide +kernel), List.mem_of_getElem? (i := 1060) (by decide +kernel), List.mem_of_getElem? (i := 1061) (by decide +kernel)⟩
theorem lw_p67 : lw_okq (⟨"NestedEnvelopesModel", "sign", "()I"⟩, 12) := ⟨⟨by decide +kernel, by decide +kernel⟩, List.mem_of_getElem? (i := 739) (by decide +kernel), List.mem_of_getElem? (i := 1064) (by decide +kernel), List.mem_of_getElem? (i := 1065) (by decide +kernel)⟩
theorem lw_p68 : lw_okq (⟨"NestedEnvelopesModel", "takes", "(I)Z"⟩, 12) := ⟨⟨by decide +kernel, by decide +kernel⟩, List.mem_of_getElem? (i := 739) (by decide +kernel), List.mem_of_getElem? (i := 1068) (by decide +kernel), List.mem_of_getElem? (i := 1069) (by decide +kernel)⟩
theorem lw_p69 : lw_okq (⟨"NestedEnvelopesModel", "readsRoad", "()Z"⟩, 12) := ⟨⟨by decide +kernel, by decide +kernel⟩, List.mem_of_getElem? (i := 739) (by decide +kernel), List.mem_of_getElem? (i := 1072) (by decide +kernel), List.mem_of_getElem? (i := 1073) (by decide +kernel)⟩
theorem lw_p70 : lw_okq (⟨"NestedEnvelopesModel", "readsInn", "(II)I"⟩, 12) := ⟨⟨by decide +kernel, by decide +kernel⟩, List.mem_of_getElem? (i := 739) (by decide +kernel), List.mem_of_getElem? (i := 1076) (by decide +kernel), List.mem_of_getElem? (i := 1077) (by decide +kernel)⟩
theorem lw_p71 : lw_okq (⟨"NestedEnvelopesModel", "figure", "(II)I"⟩, 12) := ⟨⟨by decide +kernel, by decide +kernel⟩, List.mem_of_getElem? (i := 739) (by decide +kernel), List.mem_of_getElem? (i := 1080) (by decide +kernel), List.mem_of_getElem? (i := 1081) (by decide +kernel)⟩
theorem lw_p72 : lw_okq (⟨"NestedEnvelopesModel", "readsBody", "()Z"⟩, 12) := ⟨⟨by decide +kernel, by decide +kernel⟩, List.mem_of_getElem? (i := 739) (by decide +kernel), List.mem_of_getElem? (i := 1084) (by decide +kernel), List.mem_of_getElem? (i := 1085) (by decide +kernel)⟩
theorem lw_p73 : lw_okq (⟨"NestedEnvelopesModel", "isDone", "()Z"⟩, 12) := ⟨⟨by decide +kernel, by decide +kernel⟩, List.mem_of_getElem? (i := 739) (by decide +kernel), List.mem_of_getElem? (i := 1092) (by decide +kernel), List.mem_of_getElem? (i := 1093) (by decide +kernel)⟩
theorem lw_p74 : lw_okq (⟨"NestedEnvelopesModel", "mix", "(J)V"⟩, 12) := ⟨⟨by decide +kernel, by decide +kernel⟩, List.mem_of_getElem? (i := 739) (by decide +kernel), List.mem_of_getElem? (i := 1109) (by decide +kernel), List.mem_of_getElem? (i := 1110) (by decide +kernel)⟩
def lw_privs_5 : List (MethodName × Nat) := [(⟨"NestedEnvelopesModel", "work", "(I)I"⟩, 12), (⟨"NestedEnvelopesModel", "areOrders", "()Z"⟩, 12), (⟨"NestedEnvelopesModel", "readsOrder", "()Z"⟩, 12), (⟨"NestedEnvelopesModel", "sign", "()I"⟩, 12), (⟨"NestedEnvelopesModel", "takes", "(I)Z"⟩, 12), (⟨"NestedEnvelopesModel", "readsRoad", "()Z"⟩, 12), (⟨"NestedEnvelopesModel", "readsInn", "(II)I"⟩, 12), (⟨"NestedEnvelopesModel", "figure", "(II)I"⟩, 12), (⟨"NestedEnvelopesModel", "readsBody", "()Z"⟩, 12), (⟨"NestedEnvelopesModel", "isDone", "()Z"⟩, 12), (⟨"NestedEnvelopesModel", "mix", "(J)V"⟩, 12)]
theorem lw_r5 : ∀ q ∈ lw_privs_5, lw_okq q := List.forall_mem_cons.mpr ⟨lw_p64, List.forall_mem_cons.mpr ⟨lw_p65, List.forall_mem_cons.mpr ⟨lw_p66, List.forall_mem_cons.mpr ⟨lw_p67, List.forall_mem_cons.mpr ⟨lw_p68, List.forall_mem_cons.mpr ⟨lw_p69, List.forall_mem_cons.mpr ⟨lw_p70, List.forall_mem_cons.mpr ⟨lw_p71, List.forall_mem_cons.mpr ⟨lw_p72, List.forall_mem_cons.mpr ⟨lw_p73, List.forall_mem_cons.mpr ⟨lw_p74, fun _ h => absurd h List.not_mem_nil⟩⟩⟩⟩⟩⟩⟩⟩⟩⟩⟩
def lw_privs : List (MethodName × Nat) := lw_privs_1 ++ (lw_privs_2 ++ (lw_privs_3 ++ (lw_privs_4 ++ (lw_privs_5))))
def lw_tbl : List Cond := k2_sels lw_privs ++ tables_1
theorem lw_privs_ok : ∀ q ∈ lw_privs, lw_okq q := by
  show ∀ q ∈ lw_privs_1 ++ (lw_privs_2 ++ (lw_privs_3 ++ (lw_privs_4 ++ (lw_privs_5)))), lw_okq q
  exact List.forall_mem_append.mpr ⟨lw_r1, List.forall_mem_append.mpr ⟨lw_r2, List.forall_mem_append.mpr ⟨lw_r3, List.forall_mem_append.mpr ⟨lw_r4, lw_r5⟩⟩⟩⟩
/-- the streams that the claim lets the run draw from -/
abbrev lw_cs : List Choice := [Jvm.Choice.named "NaN.bits"]
theorem lw_bits : nanBits ∈ lw_cs := by first | decide | exact List.mem_cons_self | simp [lw_cs, nanBits]
-- ===== end of PART A; then your names; then what follows =====
end
section
/-! ===== BEGIN words of one list among another's, by their places ===== -/
theorem goodIn_r {big : List Cond} (ws : List Cond) (ps : List Nat) (hp : ws = ps.filterMap (fun i => big[i]?)) (h : ws.all goodWord = true) : GoodIn big ws := by
  intro w hw
  have h1 := List.all_eq_true.mp h w hw
  rw [hp] at hw
  obtain ⟨i, -, hi⟩ := List.mem_filterMap.mp hw
  have hm : w ∈ big := by first | exact List.mem_of_getElem? hi | exact List.getElem?_mem hi
  exact ⟨hm, good_of_word h1⟩
theorem goodIn_app {big a b : List Cond} (ha : GoodIn big a) (hb : GoodIn big b) : GoodIn big (a ++ b) := fun w h => (List.mem_append.mp h).elim (ha w) (hb w)
theorem goodIn_ca {big a b : List Cond} {c : Cond} (ha : GoodIn big (c :: a)) (hb : GoodIn big b) : GoodIn big (c :: (a ++ b)) := fun w h => (List.mem_cons.mp h).elim (fun e => ha w (List.mem_cons.mpr (Or.inl e))) (fun h => (List.mem_append.mp h).elim (fun h => ha w (List.mem_cons.mpr (Or.inr h))) (hb w))
theorem goodIn_sub {big ws : List Cond} (hm : ∀ w ∈ ws, w ∈ big) (h : ws.all goodWord = true) : GoodIn big ws := fun w hw => ⟨hm w hw, good_of_word (List.all_eq_true.mp h w hw)⟩
/-! ===== END ===== -/

/-! ===== BEGIN exceptions that leave a method, and their catching by the caller (launches without stack traces) ===== -/
section VXA
/-! The laws vx_back, vx_callV, vx_callS, vx_callSW, vx_throw0, vx_throwS follow proofs of the library, with one case more: JvmDerived/Free/Laws.lean (Back.of_free), Shelf42/LK1.lean (callV, callS), Shelf/KitTraced.lean (throwNew0V, throwNewS). -/
/-- where a method has thrown q: the class by its name, the cell, what was written, the world -/
def vx_T (XC : String → State → State → Prop) (st : State) (q : Addr) (t : State) (mc ms : Nat) (free : Addr → Prop) : Prop :=
  ∃ (E : String) (ce : Cell) (L : List Loc), XC E st t ∧ t.heap[q]? = some ce ∧ ce.vm = .none ∧ st.vm.findClass E = some ce.cls ∧ st.WarmedH t.vm ∧ st.sameButNew ({ t with vm := st.vm } : State) L mc ms ∧ ∀ z ∈ L, free z.base
def vx_Q (Qc : Array Value → State → Outcome → State → Prop) (XC : String → State → State → Prop) (mc ms : Nat) (free : Addr → Prop) : Array Value → State → Outcome → State → Prop := fun a st o t =>
  (Qc a st o t ∧ ∃ L, FrameEnd st o t L mc ms ∧ ∀ q ∈ L, free q.base) ∨ ∃ q, o = .threw q ∧ vx_T XC st q t mc ms free
/-- a callee that returns or throws -/
def vx_Met (l : Launch) (y : MethodName) (ws : List Cond) (rm : Room) (Pc : Array Value → State → Prop) (Qc : Array Value → State → Outcome → State → Prop) (XC : String → State → State → Prop) (mc ms : Nat) (free : Addr → Prop) : Prop :=
  MetFree l y (headSpec ws rm) Pc (fun _ _ _ _ _ => True) (vx_Q Qc XC mc ms free)
def vx_Post (XC : String → State → State → Prop) (mc ms : Nat) (free : Addr → Prop) : Pt → Array Value → Addr → Pt → Prop := fun A a q B =>
  ∃ (g : JFrame) (mk : MethodId) (t : State) (L : List Loc) (E : String) (ce : Cell), B.U.heap = t.heap ∧ B.U.vm = t.vm ∧ XC E (A.U.calling g mk a) t ∧ t.heap[q]? = some ce ∧ ce.vm = .none ∧ A.U.vm.findClass E = some ce.cls ∧ B.locs = A.locs ++ L ∧ (∀ z ∈ L, free z.base) ∧ B.cells = A.cells + mc ∧ B.slots = A.slots + ms
def vx_Back (l : Launch) (R : Room) (p : Program) (e : Env) (below : List Frame) (s : State) (sargs : Array Value) (y : MethodName) (len W9 : Nat)
    (Pre : Pt → Array Value → Prop) (Post : Pt → Array Value → Option Value → Pt → Prop) (PostX : Pt → Array Value → Addr → Pt → Prop) : Prop :=
  ∀ (m : MethodId) (meth : Method) (c : Code) (A : Pt) (g : JFrame) (ig : Instr) (mk : MethodId) (a : Array Value),
    Stand p l e R s m sargs below meth c A.U A.locs A.cells A.slots → g.method = m → g.locals.size = c.maxLocals → decode c.code g.pc = .ok (ig, len) →
    2 * g.monitorRoom + (g.stack.map fun v => v.category).sum ≤ W9 → A.U.methodNamed? y = some mk → Pre A a →
    (∃ (v : Option Value) (B : Pt), Stand p l e R s m sargs below meth c B.U B.locs B.cells B.slots ∧ Post A a v B ∧
      Steps p.tables e below (doInvoke e (A.U.setTop g) [] mk a).1 (B.U.setTop { g with pc := g.pc + len, stack := v.toList ++ g.stack })) ∨
    (∃ (q : Addr) (B : Pt), Stand p l e R s m sargs below meth c B.U B.locs B.cells B.slots ∧ PostX A a q B ∧
      Steps p.tables e below (doInvoke e (A.U.setTop g) [] mk a).1 ((B.U.setTop g).pushFrame (.throwing q)))
section Payer
variable {l : Launch} {R : Room} {p : Program} {e : Env} {below : List Frame} {s : State} {sargs : Array Value} {y : MethodName} {len W9 : Nat}
theorem vx_back {ws : List Cond} {rm : Room} {Pc : Array Value → State → Prop} {Qc : Array Value → State → Outcome → State → Prop} {XC : String → State → State → Prop} {mc ms : Nat} {free : Addr → Prop} {bytes : ByteArray} {maxL : Nat} {ret : Option FieldType}
    (hM : vx_Met l y ws rm Pc Qc XC mc ms free) (hblind : FrameBlind Pc) (hrc : rm.cells = mc) (hrs : rm.slots = ms)
    (hframes : rm.frames + 1 ≤ R.frames) (hlocals : W9 + (maxL + 11) + rm.locals ≤ R.locals)
    (hws : ∀ w ∈ ws, ∀ a' U, s.WarmedH U.vm → w.before a' U = true) (hcode : Cond.code y bytes maxL ret ∈ ws) (hinit : ∀ a' U, s.WarmedH U.vm → (Cond.initialized y.cls).before a' U = true) :
    vx_Back l R p e below s sargs y len W9 (PreOf R mc ms Pc) (PostOf Qc mc ms free) (vx_Post XC mc ms free) := by
  intro m meth c A g ig mk a X hg hsize hdg hW hn hp
  have h1 : (headSpec ws rm).pre.before a A.U = true := atoms_intro fun w hw => hws w hw _ _ X.warmed
  have h2 : (Cond.code y bytes maxL ret).before a A.U = true := hws _ hcode _ _ X.warmed
  have h3 : (Cond.initialized y.cls).before a A.U = true := hinit _ _ X.warmed
  have h4 : A.cells + (headSpec ws rm).room.cells ≤ R.cells := by rw [show (headSpec ws rm).room.cells = mc from hrc]; exact hp.1
  have h5 : A.slots + (headSpec ws rm).room.slots ≤ R.slots := by rw [show (headSpec ws rm).room.slots = ms from hrs]; exact hp.2.1
  have hPc : Pc a (A.U.calling g mk a) := hblind _ _ _ _ hp.2.2
  obtain ⟨U, Ls, c0, s0⟩ := A
  dsimp only [Pt.U, Pt.locs, Pt.cells, Pt.slots] at h1 h2 h3 h4 h5 X hn hPc ⊢
  obtain ⟨methY, cY, hmY, hcY, -, hlY, -, -, -, -⟩ := Cond.code_spec hn h2
  obtain ⟨kY, hkY, -⟩ := className_of_methodNamed hn
  have hinitY : kY.init = .initialized := Cond.initialized_spec (findClass_of_methodNamed hn) hkY h3
  have h : At U g.method c below := by rw [hg]; exact X.here
  have hlocals9 : W9 + (maxL + 11) + (headSpec ws rm).room.locals ≤ R.locals := hlocals
  have happ : (headSpec ws rm).appliesLoose y e.platform (U.calling g mk a) = true :=
    Spec.appliesLoose_calling (g := g) h hdg hn hkY hinitY
      (X.room_calling (g := g) (R' := (headSpec ws rm).room) hsize hmY hcY hframes (by rw [hlY]; omega) h4 h5) h1
  obtain ⟨mid, hmid⟩ := h.above
  have hfr : (U.setTop g).frames = (.java g :: mid) ++ below := by rw [State.frames_setTop' g h.top, hmid]; rfl
  obtain ⟨o, s₂, hsteps, -, hend, hq⟩ := Steps.callFree hM p X.admits X.cas X.clock (acts := []) hfr happ hPc trivial
  have hq' : vx_Q Qc XC mc ms free a (U.calling g mk a) o s₂ := hq
  rw [State.frames_setTop' g h.top] at hend
  obtain ⟨g₀, hg0⟩ := Option.isSome_iff_exists.mp h.top
  obtain ⟨r, hr⟩ := State.topJava?_eq_some.mp hg0
  have hr' : (({ U with heap := s₂.heap, slotsUsed := s₂.slotsUsed } : State).setVm s₂.vm).frames = .java g₀ :: r := hr
  rcases hq' with ⟨hqc, L, hfe, hL⟩ | ⟨q, rfl, E, ce, L, hx, hce, hcv, hcl, hW₂, hsm, hL⟩
  · obtain ⟨⟨v, rfl⟩, hW₂, e2, q2, q3, q4, q5, q6⟩ := id hfe
    have e3 : s₂ = ({ (U.calling g mk a).setFrames s₂.frames with heap := s₂.heap, slotsUsed := s₂.slotsUsed } : State).setVm s₂.vm := by
      have : s₂ = ({ s₂ with vm := (U.calling g mk a).vm } : State).setVm s₂.vm := rfl
      rw [e2] at this
      exact this
    obtain ⟨c₂, i₂, len₂, hc₂, hd₂, hf₂⟩ := hend
    have hW' : U.WarmedH s₂.vm := hW₂
    have hcc : c₂ = c := by
      have h1 : s₂.code? g.method = U.code? g.method := by
        rw [State.code?_eq, State.code?_eq, hW'.alike.method?]
      exact Option.some.inj (hc₂.symm.trans (h1.trans h.code))
    subst hcc
    have hlen : len₂ = len := by rw [hdg] at hd₂; cases hd₂; rfl
    subst hlen
    have hs₂ : s₂ = (({ U with heap := s₂.heap, slotsUsed := s₂.slotsUsed } : State).setVm s₂.vm).setTop { g with pc := g.pc + len₂, stack := v.toList ++ g.stack } := by
      refine e3.trans ?_
      rw [hf₂, State.calling_eq h.top, State.setFrames_setFrames, State.setTop_of_frames _ hr', hr]
      rfl
    have hsame : U.sameButNew ({ U with heap := s₂.heap, slotsUsed := s₂.slotsUsed } : State) L mc ms := by
      refine ⟨?_, q2, q3, q4, q5, q6⟩
      obtain ⟨t, ht, -⟩ := State.frames_cons hr
      show ({ U with heap := s₂.heap, slotsUsed := s₂.slotsUsed } : State) = { U.setFrames U.frames with heap := s₂.heap, slotsUsed := s₂.slotsUsed }
      rw [State.setFrames_self ht]
    subst hg
    refine Or.inl ⟨v, ⟨(({ U with heap := s₂.heap, slotsUsed := s₂.slotsUsed } : State).setVm s₂.vm), Ls ++ L, c0 + mc, s0 + ms⟩,
      ⟨X.admits, X.cas, X.clock, X.frames, X.room, X.hears, X.method, X.code, (X.here.setHeapUsed s₂.heap s₂.slotsUsed).setVm hW'.alike, X.tail, State.WarmedH.trans X.warmed hW', X.limits, X.bytes, X.same.trans (hsame.setVm s.vm)⟩,
      ⟨g, mk, s₂, L, rfl, rfl, hqc, rfl, hL, rfl, rfl⟩, ?_⟩
    show Steps p.tables e below _ ((({ U with heap := s₂.heap, slotsUsed := s₂.slotsUsed } : State).setVm s₂.vm).setTop { g with pc := g.pc + len₂, stack := v.toList ++ g.stack })
    rw [← hs₂]
    exact hsteps
  · obtain ⟨e2, q2, q3, q4, q5, q6⟩ := id hsm
    have e3 : s₂ = ({ (U.calling g mk a).setFrames s₂.frames with heap := s₂.heap, slotsUsed := s₂.slotsUsed } : State).setVm s₂.vm := by
      have : s₂ = ({ s₂ with vm := (U.calling g mk a).vm } : State).setVm s₂.vm := rfl
      rw [e2] at this
      exact this
    have hf₂ : s₂.frames = .throwing q :: .java g :: U.frames.tail := hend
    have hW' : U.WarmedH s₂.vm := hW₂
    have hs₂ : s₂ = ((({ U with heap := s₂.heap, slotsUsed := s₂.slotsUsed } : State).setVm s₂.vm).setTop g).pushFrame (.throwing q) := by
      refine e3.trans ?_
      rw [hf₂, State.calling_eq h.top, State.setFrames_setFrames, State.pushFrame, State.frames_setTop _ hr', State.setTop_of_frames _ hr', State.setFrames_setFrames, hr]
      rfl
    have hsame : U.sameButNew ({ U with heap := s₂.heap, slotsUsed := s₂.slotsUsed } : State) L mc ms := by
      refine ⟨?_, q2, q3, q4, q5, q6⟩
      obtain ⟨t, ht, -⟩ := State.frames_cons hr
      show ({ U with heap := s₂.heap, slotsUsed := s₂.slotsUsed } : State) = { U.setFrames U.frames with heap := s₂.heap, slotsUsed := s₂.slotsUsed }
      rw [State.setFrames_self ht]
    subst hg
    refine Or.inr ⟨q, ⟨(({ U with heap := s₂.heap, slotsUsed := s₂.slotsUsed } : State).setVm s₂.vm), Ls ++ L, c0 + mc, s0 + ms⟩,
      ⟨X.admits, X.cas, X.clock, X.frames, X.room, X.hears, X.method, X.code, (X.here.setHeapUsed s₂.heap s₂.slotsUsed).setVm hW'.alike, X.tail, State.WarmedH.trans X.warmed hW', X.limits, X.bytes, X.same.trans (hsame.setVm s.vm)⟩,
      ⟨g, mk, s₂, L, E, ce, rfl, rfl, hx, hce, hcv, hcl, rfl, hL, rfl, rfl⟩, ?_⟩
    show Steps p.tables e below _ (((({ U with heap := s₂.heap, slotsUsed := s₂.slotsUsed } : State).setVm s₂.vm).setTop g).pushFrame (.throwing q))
    rw [← hs₂]
    exact hsteps
end Payer
section Calls
variable {p : Program} {l : Launch} {e : Env} {R : Room} {s : State} {m : MethodId} {args : Array Value} {below : List Frame} {meth : Method} {c : Code} {T : State} {locs : List Loc} {cells slots : Nat}
theorem vx_callV (X : Stand p l e R s m args below meth c T locs cells slots) (hexec : p.tables.exec = Jvm.exec) {own C : String} {index : Nat} {y : MethodName} {bytes : ByteArray} {maxL : Nat} {ret : Option FieldType}
    (hown : s.vm.findClass own = some m.cls) (hlink : (Cond.methodLink own index y).before args s = true) (hinst : (Cond.instanceMethod y).before args s = true) (hsel : (Cond.selects C y y).before args s = true)
    (hcode : (Cond.code y bytes maxL ret).before args s = true) (hy : y.cls ≠ "java/lang/invoke/MethodHandle" ∧ y.cls ≠ "java/lang/invoke/VarHandle")
    {W9 : Nat} {Pre : Pt → Array Value → Prop} {Post : Pt → Array Value → Option Value → Pt → Prop} {PostX : Pt → Array Value → Addr → Pt → Prop} (hK : vx_Back l R p e below s args y 3 W9 Pre Post PostX)
    {b : Addr} {cellB : Cell} (hcell : T.heap[b]? = some cellB) (hobj : cellB.vm.isStatics = false) (hcls : s.vm.findClass C = some cellB.cls)
    {g : JFrame} (hg : g.method = m) (hsize : g.locals.size = c.maxLocals) {argsL rest : List Value} (hlen : ∀ sig, parseMethodDescriptor y.desc = some sig → argsL.length = sig.parameters.length)
    (hstack : g.stack = argsL.reverse ++ .ref b :: rest) (hW : 2 * g.monitorRoom + (rest.map fun v => v.category).sum ≤ W9) (hdg : decode c.code g.pc = .ok (.invokevirtual index, 3))
    (hpre : ∀ vm₁, s.WarmedH vm₁ → Pre ⟨T.setVm vm₁, locs, cells, slots⟩ (Value.ref b :: argsL).toArray) :
    (∃ (v : Option Value) (vm₁ : Vm) (B : Pt), s.WarmedH vm₁ ∧ Stand p l e R s m args below meth c B.U B.locs B.cells B.slots ∧ Post ⟨T.setVm vm₁, locs, cells, slots⟩ (Value.ref b :: argsL).toArray v B ∧
      ∀ target, Steps p.tables e below (B.U.setTop { g with pc := g.pc + 3, stack := v.toList ++ rest }) target → Steps p.tables e below (T.setTop g) target) ∨
    (∃ (q : Addr) (vm₁ : Vm) (B : Pt), s.WarmedH vm₁ ∧ Stand p l e R s m args below meth c B.U B.locs B.cells B.slots ∧ PostX ⟨T.setVm vm₁, locs, cells, slots⟩ (Value.ref b :: argsL).toArray q B ∧
      Steps p.tables e below (T.setTop g) ((B.U.setTop { g with stack := rest }).pushFrame (.throwing q))) := by
  obtain ⟨mk, methM, hnamed, hmethM, hstM, habM⟩ := Cond.instanceMethod_spec hinst
  obtain ⟨methM', cM, hmethM', -, -, -, -, -, -, hsigM⟩ := Cond.code_spec hnamed hcode
  cases hmethM.symm.trans hmethM'
  obtain ⟨c2, r2, m2, q1, q2, q3, q4, kP, hkP, hkPi⟩ := Cond.selects_spec hsel
  cases hcls.symm.trans q1
  cases (State.methodFound?_of_named hnamed hy).symm.trans q2
  cases hnamed.symm.trans q3
  have hselP : selectMethod e.platform s.vm cellB.cls mk = .method mk := by rw [Launch.admits_selectMethod X.admits]; exact q4
  obtain ⟨vm₁, X₁, hstep₁⟩ := X.invokevirtual hexec hown hlink hnamed hmethM hstM hkP hkPi hy (a := b) (cell := cellB) hcell
    (fun z h => by rw [h] at hobj; cases hobj) hselP hmethM habM hkP hkPi (g := g) hg (argsL := argsL) (rest := rest) (hlen _ hsigM) hstack hdg
  rcases hK m meth c ⟨T.setVm vm₁, locs, cells, slots⟩ { g with stack := rest } (.invokevirtual index) mk (Value.ref b :: argsL).toArray X₁ hg hsize hdg hW (X₁.named hnamed) (hpre vm₁ X₁.warmed) with ⟨v, B, X', hpost, hsteps⟩ | ⟨q, B, X', hpost, hsteps⟩
  · exact Or.inl ⟨v, vm₁, B, X₁.warmed, X', hpost, fun target h => hstep₁ _ fun acts => by rw [doInvoke_state]; exact hsteps.trans h⟩
  · exact Or.inr ⟨q, vm₁, B, X₁.warmed, X', hpost, hstep₁ _ fun acts => by rw [doInvoke_state]; exact hsteps⟩
theorem vx_callS (X : Stand p l e R s m args below meth c T locs cells slots) (hexec : p.tables.exec = Jvm.exec) {own : String} {index : Nat} {y : MethodName} {bytes : ByteArray} {maxL : Nat} {ret : Option FieldType}
    (hown : s.vm.findClass own = some m.cls) (hlink : (Cond.methodLink own index y).before args s = true) (hstat : (Cond.static y).before args s = true) (hinit : (Cond.initialized y.cls).before args s = true)
    (hcode : (Cond.code y bytes maxL ret).before args s = true) (hy : y.cls ≠ "java/lang/invoke/MethodHandle" ∧ y.cls ≠ "java/lang/invoke/VarHandle")
    {W9 : Nat} {Pre : Pt → Array Value → Prop} {Post : Pt → Array Value → Option Value → Pt → Prop} {PostX : Pt → Array Value → Addr → Pt → Prop} (hK : vx_Back l R p e below s args y 3 W9 Pre Post PostX)
    {g : JFrame} (hg : g.method = m) (hsize : g.locals.size = c.maxLocals) {argsL rest : List Value} (hlen : ∀ sig, parseMethodDescriptor y.desc = some sig → argsL.length = sig.parameters.length)
    (hstack : g.stack = argsL.reverse ++ rest) (hW : 2 * g.monitorRoom + (rest.map fun v => v.category).sum ≤ W9) (hdg : decode c.code g.pc = .ok (.invokestatic index, 3))
    (hpre : ∀ vm₁, s.WarmedH vm₁ → Pre ⟨T.setVm vm₁, locs, cells, slots⟩ argsL.toArray) :
    (∃ (v : Option Value) (vm₁ : Vm) (B : Pt), s.WarmedH vm₁ ∧ Stand p l e R s m args below meth c B.U B.locs B.cells B.slots ∧ Post ⟨T.setVm vm₁, locs, cells, slots⟩ argsL.toArray v B ∧
      ∀ target, Steps p.tables e below (B.U.setTop { g with pc := g.pc + 3, stack := v.toList ++ rest }) target → Steps p.tables e below (T.setTop g) target) ∨
    (∃ (q : Addr) (vm₁ : Vm) (B : Pt), s.WarmedH vm₁ ∧ Stand p l e R s m args below meth c B.U B.locs B.cells B.slots ∧ PostX ⟨T.setVm vm₁, locs, cells, slots⟩ argsL.toArray q B ∧
      Steps p.tables e below (T.setTop g) ((B.U.setTop { g with stack := rest }).pushFrame (.throwing q))) := by
  obtain ⟨mk, hnamed⟩ := Cond.code_named hcode
  obtain ⟨methM, cM, hmethM, -, -, -, -, -, -, hsigM⟩ := Cond.code_spec hnamed hcode
  have hstatic : methM.isStatic = true := Cond.static_spec hnamed hmethM hstat
  obtain ⟨kP, hkP, -⟩ := className_of_methodNamed hnamed
  have hinitP : kP.init = .initialized := Cond.initialized_spec (findClass_of_methodNamed hnamed) hkP hinit
  obtain ⟨vm₁, X₁, hstep₁⟩ := X.invokestatic hexec hown hlink hnamed hmethM hstatic hkP hinitP hy (g := g) hg (argsL := argsL) (rest := rest) (hlen _ hsigM) hstack hdg
  rcases hK m meth c ⟨T.setVm vm₁, locs, cells, slots⟩ { g with stack := rest } (.invokestatic index) mk argsL.toArray X₁ hg hsize hdg hW (X₁.named hnamed) (hpre vm₁ X₁.warmed) with ⟨v, B, X', hpost, hsteps⟩ | ⟨q, B, X', hpost, hsteps⟩
  · exact Or.inl ⟨v, vm₁, B, X₁.warmed, X', hpost, fun target h => hstep₁ _ fun acts => by rw [doInvoke_state]; exact hsteps.trans h⟩
  · exact Or.inr ⟨q, vm₁, B, X₁.warmed, X', hpost, hstep₁ _ fun acts => by rw [doInvoke_state]; exact hsteps⟩
end Calls
theorem vx_cls {s : State} {T : State} {vm₁ : Vm} {E : String} {k : ClassId} (hW : s.WarmedH vm₁) (h : (T.setVm vm₁).vm.findClass E = some k) : s.vm.findClass E = some k := by
  have h1 : vm₁.findClass E = some k := h
  rw [hW.alike.findClass] at h1
  exact h1
/-- the method's frame g, with q thrown over it -/
def vx_W (p : Program) (l : Launch) (e : Env) (R : Room) (s : State) (m : MethodId) (args : Array Value) (below : List Frame) (meth : Method) (c : Code) (H : Heap) (locs : List Loc) (cells slots : Nat) (Q : State → Prop) (g : JFrame) (q : Addr) : Prop :=
  ∀ T : State, T.heap = H → Stand p l e R s m args below meth c T locs cells slots → ∃ t, Steps p.tables e below ((T.setTop g).pushFrame (.throwing q)) t ∧ Q t
def vx_Run (p : Program) (l : Launch) (e : Env) (R : Room) (s : State) (m : MethodId) (args : Array Value) (below : List Frame) (meth : Method) (c : Code) (H : Heap) (locs : List Loc) (cells slots mc ms : Nat) (g : JFrame) (rest : List Value) (Qa : State → Outcome → State → Prop) (XC : String → State → State → Prop) (free : Addr → Prop) : Prop :=
  ∀ T : State, T.heap = H → Stand p l e R s m args below meth c T locs cells slots →
    (∃ (v : Option Value) (st₀ t T' : State) (L : List Loc), st₀.heap = H ∧ Stand p l e R s m args below meth c T' (locs ++ L) (cells + mc) (slots + ms) ∧ (∀ q ∈ L, free q.base) ∧ T'.heap = t.heap ∧ T'.vm = t.vm ∧ Qa st₀ (.returned v) t ∧
      Goes p e below T g T' { g with pc := g.pc + 3, stack := v.toList ++ rest }) ∨
    (∃ (q : Addr) (st₀ t T' : State) (L : List Loc) (E : String) (ce : Cell), st₀.heap = H ∧ Stand p l e R s m args below meth c T' (locs ++ L) (cells + mc) (slots + ms) ∧ (∀ z ∈ L, free z.base) ∧ T'.heap = t.heap ∧ T'.vm = t.vm ∧ XC E st₀ t ∧ t.heap[q]? = some ce ∧ ce.vm = .none ∧ s.vm.findClass E = some ce.cls ∧
      Steps p.tables e below (T.setTop g) ((T'.setTop { g with stack := rest }).pushFrame (.throwing q)))
def vx_X {S : Type} (px : S → Prop) (B : String → S → State → Prop) (A : Nat → Prop) : String → State → State → Prop := fun E st t => ∃ u : S, px u ∧ B E u t ∧ va_F A st t
section Runs
variable {p : Program} {l : Launch} {e : Env} {R : Room} {s : State} {m : MethodId} {args : Array Value} {below : List Frame} {meth : Method} {c : Code} {H : Heap} {locs : List Loc} {cells slots : Nat}
variable {y : MethodName} {bytes cc : ByteArray} {maxL nL mc ms n index : Nat} {ret : Option FieldType} {ws : List Cond} {rm : Room} {Pc : Array Value → State → Prop} {Qc : Array Value → State → Outcome → State → Prop} {XC : String → State → State → Prop} {free : Addr → Prop} {Ts : List Cond} {own C : String} {b : Addr} {As rest : List Value} {g : JFrame}
theorem vx_callBack (cb : CallB R s args own index y bytes maxL ret ws rm mc ms n) (hM : vx_Met l y ws rm Pc Qc XC mc ms free) (hbl : FrameBlind Pc) : vx_Back l R p e below s args y 3 8 (PreOf R mc ms Pc) (PostOf Qc mc ms free) (vx_Post XC mc ms free) := by
  obtain ⟨hrc, hrs, hfr, hlo, hws, hcw, -, hini, -⟩ := cb
  exact vx_back (bytes := bytes) (maxL := maxL) (ret := ret) hM hbl hrc hrs hfr hlo hws hcw (fun a' U hW => word_at hW (Or.inl (by first | rfl | simp [Cond.onTables, Cond.keeps, Cond.steady])) hini)
theorem vx_runV (S : CallFix p m c cc nL s args Ts own) (hM : vx_Met l y ws rm Pc Qc XC mc ms free) (cw : CallW R s args own C index y bytes maxL ret ws rm mc ms n) (hp : PreV s H C b Pc As)
    (hg : g.method = m) (hn : As.length = n) (hsize : g.locals.size = nL) (hstack : g.stack = As.reverse ++ .ref b :: rest) (hW : 2 * g.monitorRoom + (rest.map fun v => v.category).sum ≤ 8) (hdg : decode cc g.pc = .ok (.invokevirtual index, 3)) (hf : cells + mc ≤ R.cells ∧ slots + ms ≤ R.slots) :
    vx_Run p l e R s m args below meth c H locs cells slots mc ms g rest (Qc (Value.ref b :: As).toArray) XC free := by
  have hK : vx_Back l R p e below s args y 3 8 (PreOf R mc ms Pc) (PostOf Qc mc ms free) (vx_Post XC mc ms free) := vx_callBack cw.1 hM hp.1
  obtain ⟨⟨-, -, -, -, -, -, hcode, -, hy, hlen, hl⟩, hin, hse⟩ := cw
  obtain ⟨hx, hb, hml, ho, -⟩ := S
  obtain ⟨-, ⟨cellB, hcB, hoB, hclB⟩, hPc⟩ := hp
  intro T hT X
  rcases vx_callV X hx (C := C) (bytes := bytes) (maxL := maxL) (ret := ret) ho hl hin hse hcode hy hK (by rw [hT]; exact hcB) hoB hclB hg (hsize.trans hml.symm) (argsL := As) (rest := rest) (fun sig h => hn.trans (hlen sig h)) hstack hW (by rw [hb]; exact hdg)
    (fun vm₁ hW₁ => ⟨hf.1, hf.2, hPc (T.setVm vm₁) hT hW₁⟩) with ⟨v, vm₁, ⟨U', l2, c2, s2⟩, hW₁, X', ⟨g', mk, t, L, e1, e2, hq, h1, hL, h2, h3⟩, st⟩ | ⟨q, vm₁, ⟨U', l2, c2, s2⟩, hW₁, X', ⟨g', mk, t, L, E, ce, e1, e2, hq, hce, hcv, hcl, h1, hL, h2, h3⟩, st⟩
  · dsimp only [Pt.U, Pt.locs, Pt.cells, Pt.slots] at X' e1 e2 h1 h2 h3 st
    subst h1; subst h2; subst h3
    exact Or.inl ⟨v, (T.setVm vm₁).calling g' mk (Value.ref b :: As).toArray, t, U', L, hT, X', hL, e1, e2, hq, st⟩
  · dsimp only [Pt.U, Pt.locs, Pt.cells, Pt.slots] at X' e1 e2 h1 h2 h3 st hcl
    subst h1; subst h2; subst h3
    exact Or.inr ⟨q, (T.setVm vm₁).calling g' mk (Value.ref b :: As).toArray, t, U', L, E, ce, hT, X', hL, e1, e2, hq, hce, hcv, vx_cls hW₁ hcl, st⟩
theorem vx_runS (S : CallFix p m c cc nL s args Ts own) (hM : vx_Met l y ws rm Pc Qc XC mc ms free) (cw : CallB R s args own index y bytes maxL ret ws rm mc ms n ∧ (Cond.static y).before args s = true) (hp : PreS s H Pc As)
    (hg : g.method = m) (hn : As.length = n) (hsize : g.locals.size = nL) (hstack : g.stack = As.reverse ++ rest) (hW : 2 * g.monitorRoom + (rest.map fun v => v.category).sum ≤ 8) (hdg : decode cc g.pc = .ok (.invokestatic index, 3)) (hf : cells + mc ≤ R.cells ∧ slots + ms ≤ R.slots) :
    vx_Run p l e R s m args below meth c H locs cells slots mc ms g rest (Qc As.toArray) XC free := by
  have hK : vx_Back l R p e below s args y 3 8 (PreOf R mc ms Pc) (PostOf Qc mc ms free) (vx_Post XC mc ms free) := vx_callBack cw.1 hM hp.1
  obtain ⟨⟨-, -, -, -, -, -, hcode, hini, hy, hlen, hl⟩, hstt⟩ := cw
  obtain ⟨hx, hb, hml, ho, -⟩ := S
  intro T hT X
  rcases vx_callS X hx (bytes := bytes) (maxL := maxL) (ret := ret) ho hl hstt hini hcode hy hK hg (hsize.trans hml.symm) (argsL := As) (rest := rest) (fun sig h => hn.trans (hlen sig h)) hstack hW (by rw [hb]; exact hdg)
    (fun vm₁ hW₁ => ⟨hf.1, hf.2, hp.2 (T.setVm vm₁) hT hW₁⟩) with ⟨v, vm₁, ⟨U', l2, c2, s2⟩, hW₁, X', ⟨g', mk, t, L, e1, e2, hq, h1, hL, h2, h3⟩, st⟩ | ⟨q, vm₁, ⟨U', l2, c2, s2⟩, hW₁, X', ⟨g', mk, t, L, E, ce, e1, e2, hq, hce, hcv, hcl, h1, hL, h2, h3⟩, st⟩
  · dsimp only [Pt.U, Pt.locs, Pt.cells, Pt.slots] at X' e1 e2 h1 h2 h3 st
    subst h1; subst h2; subst h3
    exact Or.inl ⟨v, (T.setVm vm₁).calling g' mk As.toArray, t, U', L, hT, X', hL, e1, e2, hq, st⟩
  · dsimp only [Pt.U, Pt.locs, Pt.cells, Pt.slots] at X' e1 e2 h1 h2 h3 st hcl
    subst h1; subst h2; subst h3
    exact Or.inr ⟨q, (T.setVm vm₁).calling g' mk As.toArray, t, U', L, E, ce, hT, X', hL, e1, e2, hq, hce, hcv, vx_cls hW₁ hcl, st⟩
end Runs
section Rows
variable {p : Program} {l : Launch} {e : Env} {R : Room} {s : State} {m : MethodId} {args : Array Value} {below : List Frame} {meth : Method} {c : Code} {H : Heap} {locs : List Loc} {cells slots : Nat} {Q : State → Prop}
variable {mc ms : Nat} {free : Addr → Prop} {A0 A1 : Nat → Prop} {H0 : Heap} {a : Array Value} {pc : Nat} {ls : Array Slot} {st0 rest : List Value}
theorem vx_keep {st₀ t T' : State} {L : List Loc} (h0 : st₀.heap = H) (e1 : T'.heap = t.heap) (hS : va_S A0 H0 H locs) (hA : ∀ q, q < H.size → A1 q → A0 q) (hf : ∀ q, free q → A0 q) (hL : ∀ q ∈ L, free q.base) (hF : va_F A1 st₀ t) :
    H.size ≤ T'.heap.size ∧ (∀ q : Nat, q < H.size → ¬ A1 q → T'.heap[q]? = H[q]?) ∧ va_S A0 H0 T'.heap (locs ++ L) := by
  obtain ⟨hz, hk⟩ := hF
  rw [h0] at hz hk
  exact ⟨by rw [e1]; exact hz, fun q h1 h2 => by rw [e1]; exact hk q h1 h2,
    ⟨Nat.le_trans hS.1 (by rw [e1]; exact hz), fun q h1 h2 => by rw [e1, hk q (Nat.lt_of_lt_of_le h1 hS.1) (fun z => h2 (hA q (Nat.lt_of_lt_of_le h1 hS.1) z))]; exact hS.2.1 q h1 h2, fun q hq => by
      rcases List.mem_append.mp hq with h | h
      · exact hS.2.2 q h
      · exact hf _ (hL q h)⟩⟩
theorem vx_calli {S SX : Type} {post : Int32 → S → Prop} {px : SX → Prop} {B : S → State → Prop} {BX : String → SX → State → Prop} {AX : Nat → Prop} (hr : vx_Run p l e R s m args below meth c H locs cells slots mc ms (F0 m pc ls st0) rest (va_Qi post B A1 a) (vx_X px BX AX) free) (hS : va_S A0 H0 H locs) (hA : ∀ q, q < H.size → A1 q → A0 q) (hf : ∀ q, free q → A0 q) (hAX : ∀ q, q < H.size → AX q → A0 q)
    (kx : ∀ (E : String) (ce : Cell) (q9 : Addr) (u : SX) (t : State) (H1 : Heap) (locs1 : List Loc), t.heap = H1 → s.vm.Alike t.vm → px u → BX E u t → H.size ≤ H1.size → (∀ q : Nat, q < H.size → ¬ AX q → H1[q]? = H[q]?) → va_S A0 H0 H1 locs1 → H1[q9]? = some ce → ce.vm = .none → s.vm.findClass E = some ce.cls → vx_W p l e R s m args below meth c H1 locs1 (cells + mc) (slots + ms) Q (F0 m pc ls rest) q9)
    (kk : ∀ (r : Int32) (u : S) (t : State) (H1 : Heap) (locs1 : List Loc), t.heap = H1 → s.vm.Alike t.vm → post r u → B u t → H.size ≤ H1.size → (∀ q : Nat, q < H.size → ¬ A1 q → H1[q]? = H[q]?) → va_S A0 H0 H1 locs1 → W p l e R s m args below meth c H1 locs1 (cells + mc) (slots + ms) Q (F0 m (pc + 3) ls (.int r :: rest))) : W p l e R s m args below meth c H locs cells slots Q (F0 m pc ls st0) := by
  intro T hT X
  rcases hr T hT X with ⟨v, st₀, t, T', L, h0, X', hL, e1, e2, ⟨⟨r, u, hv, hp, hb⟩, hF⟩, st⟩ | ⟨q, st₀, t, T', L, E, ce, h0, X', hL, e1, e2, ⟨u, hp, hb, hF⟩, hce, hcv, hcl, st⟩
  · cases hv
    obtain ⟨k1, k2, k3⟩ := vx_keep h0 e1 hS hA hf hL hF
    obtain ⟨t2, a1, b1⟩ := kk r u t T'.heap (locs ++ L) e1.symm (by rw [← e2]; exact X'.warmed.alike) hp hb k1 k2 k3 T' rfl X'
    exact ⟨t2, st t2 a1, b1⟩
  · obtain ⟨k1, k2, k3⟩ := vx_keep h0 e1 hS hAX hf hL hF
    obtain ⟨t2, a1, b1⟩ := kx E ce q u t T'.heap (locs ++ L) e1.symm (by rw [← e2]; exact X'.warmed.alike) hp hb k1 k2 k3 (by rw [e1]; exact hce) hcv hcl T' rfl X'
    exact ⟨t2, st.trans a1, b1⟩
theorem vx_calll {S SX : Type} {post : Int64 → S → Prop} {px : SX → Prop} {B : S → State → Prop} {BX : String → SX → State → Prop} {AX : Nat → Prop} (hr : vx_Run p l e R s m args below meth c H locs cells slots mc ms (F0 m pc ls st0) rest (va_Ql post B A1 a) (vx_X px BX AX) free) (hS : va_S A0 H0 H locs) (hA : ∀ q, q < H.size → A1 q → A0 q) (hf : ∀ q, free q → A0 q) (hAX : ∀ q, q < H.size → AX q → A0 q)
    (kx : ∀ (E : String) (ce : Cell) (q9 : Addr) (u : SX) (t : State) (H1 : Heap) (locs1 : List Loc), t.heap = H1 → s.vm.Alike t.vm → px u → BX E u t → H.size ≤ H1.size → (∀ q : Nat, q < H.size → ¬ AX q → H1[q]? = H[q]?) → va_S A0 H0 H1 locs1 → H1[q9]? = some ce → ce.vm = .none → s.vm.findClass E = some ce.cls → vx_W p l e R s m args below meth c H1 locs1 (cells + mc) (slots + ms) Q (F0 m pc ls rest) q9)
    (kk : ∀ (r : Int64) (u : S) (t : State) (H1 : Heap) (locs1 : List Loc), t.heap = H1 → s.vm.Alike t.vm → post r u → B u t → H.size ≤ H1.size → (∀ q : Nat, q < H.size → ¬ A1 q → H1[q]? = H[q]?) → va_S A0 H0 H1 locs1 → W p l e R s m args below meth c H1 locs1 (cells + mc) (slots + ms) Q (F0 m (pc + 3) ls (.long r :: rest))) : W p l e R s m args below meth c H locs cells slots Q (F0 m pc ls st0) := by
  intro T hT X
  rcases hr T hT X with ⟨v, st₀, t, T', L, h0, X', hL, e1, e2, ⟨⟨r, u, hv, hp, hb⟩, hF⟩, st⟩ | ⟨q, st₀, t, T', L, E, ce, h0, X', hL, e1, e2, ⟨u, hp, hb, hF⟩, hce, hcv, hcl, st⟩
  · cases hv
    obtain ⟨k1, k2, k3⟩ := vx_keep h0 e1 hS hA hf hL hF
    obtain ⟨t2, a1, b1⟩ := kk r u t T'.heap (locs ++ L) e1.symm (by rw [← e2]; exact X'.warmed.alike) hp hb k1 k2 k3 T' rfl X'
    exact ⟨t2, st t2 a1, b1⟩
  · obtain ⟨k1, k2, k3⟩ := vx_keep h0 e1 hS hAX hf hL hF
    obtain ⟨t2, a1, b1⟩ := kx E ce q u t T'.heap (locs ++ L) e1.symm (by rw [← e2]; exact X'.warmed.alike) hp hb k1 k2 k3 (by rw [e1]; exact hce) hcv hcl T' rfl X'
    exact ⟨t2, st.trans a1, b1⟩
theorem vx_callf {S SX : Type} {post : UInt32 → S → Prop} {px : SX → Prop} {B : S → State → Prop} {BX : String → SX → State → Prop} {AX : Nat → Prop} (hr : vx_Run p l e R s m args below meth c H locs cells slots mc ms (F0 m pc ls st0) rest (va_Qf post B A1 a) (vx_X px BX AX) free) (hS : va_S A0 H0 H locs) (hA : ∀ q, q < H.size → A1 q → A0 q) (hf : ∀ q, free q → A0 q) (hAX : ∀ q, q < H.size → AX q → A0 q)
    (kx : ∀ (E : String) (ce : Cell) (q9 : Addr) (u : SX) (t : State) (H1 : Heap) (locs1 : List Loc), t.heap = H1 → s.vm.Alike t.vm → px u → BX E u t → H.size ≤ H1.size → (∀ q : Nat, q < H.size → ¬ AX q → H1[q]? = H[q]?) → va_S A0 H0 H1 locs1 → H1[q9]? = some ce → ce.vm = .none → s.vm.findClass E = some ce.cls → vx_W p l e R s m args below meth c H1 locs1 (cells + mc) (slots + ms) Q (F0 m pc ls rest) q9)
    (kk : ∀ (r : UInt32) (u : S) (t : State) (H1 : Heap) (locs1 : List Loc), t.heap = H1 → s.vm.Alike t.vm → post r u → B u t → H.size ≤ H1.size → (∀ q : Nat, q < H.size → ¬ A1 q → H1[q]? = H[q]?) → va_S A0 H0 H1 locs1 → W p l e R s m args below meth c H1 locs1 (cells + mc) (slots + ms) Q (F0 m (pc + 3) ls (.float r :: rest))) : W p l e R s m args below meth c H locs cells slots Q (F0 m pc ls st0) := by
  intro T hT X
  rcases hr T hT X with ⟨v, st₀, t, T', L, h0, X', hL, e1, e2, ⟨⟨r, u, hv, hp, hb⟩, hF⟩, st⟩ | ⟨q, st₀, t, T', L, E, ce, h0, X', hL, e1, e2, ⟨u, hp, hb, hF⟩, hce, hcv, hcl, st⟩
  · cases hv
    obtain ⟨k1, k2, k3⟩ := vx_keep h0 e1 hS hA hf hL hF
    obtain ⟨t2, a1, b1⟩ := kk r u t T'.heap (locs ++ L) e1.symm (by rw [← e2]; exact X'.warmed.alike) hp hb k1 k2 k3 T' rfl X'
    exact ⟨t2, st t2 a1, b1⟩
  · obtain ⟨k1, k2, k3⟩ := vx_keep h0 e1 hS hAX hf hL hF
    obtain ⟨t2, a1, b1⟩ := kx E ce q u t T'.heap (locs ++ L) e1.symm (by rw [← e2]; exact X'.warmed.alike) hp hb k1 k2 k3 (by rw [e1]; exact hce) hcv hcl T' rfl X'
    exact ⟨t2, st.trans a1, b1⟩
theorem vx_calld {S SX : Type} {post : UInt64 → S → Prop} {px : SX → Prop} {B : S → State → Prop} {BX : String → SX → State → Prop} {AX : Nat → Prop} (hr : vx_Run p l e R s m args below meth c H locs cells slots mc ms (F0 m pc ls st0) rest (va_Qd post B A1 a) (vx_X px BX AX) free) (hS : va_S A0 H0 H locs) (hA : ∀ q, q < H.size → A1 q → A0 q) (hf : ∀ q, free q → A0 q) (hAX : ∀ q, q < H.size → AX q → A0 q)
    (kx : ∀ (E : String) (ce : Cell) (q9 : Addr) (u : SX) (t : State) (H1 : Heap) (locs1 : List Loc), t.heap = H1 → s.vm.Alike t.vm → px u → BX E u t → H.size ≤ H1.size → (∀ q : Nat, q < H.size → ¬ AX q → H1[q]? = H[q]?) → va_S A0 H0 H1 locs1 → H1[q9]? = some ce → ce.vm = .none → s.vm.findClass E = some ce.cls → vx_W p l e R s m args below meth c H1 locs1 (cells + mc) (slots + ms) Q (F0 m pc ls rest) q9)
    (kk : ∀ (r : UInt64) (u : S) (t : State) (H1 : Heap) (locs1 : List Loc), t.heap = H1 → s.vm.Alike t.vm → post r u → B u t → H.size ≤ H1.size → (∀ q : Nat, q < H.size → ¬ A1 q → H1[q]? = H[q]?) → va_S A0 H0 H1 locs1 → W p l e R s m args below meth c H1 locs1 (cells + mc) (slots + ms) Q (F0 m (pc + 3) ls (.double r :: rest))) : W p l e R s m args below meth c H locs cells slots Q (F0 m pc ls st0) := by
  intro T hT X
  rcases hr T hT X with ⟨v, st₀, t, T', L, h0, X', hL, e1, e2, ⟨⟨r, u, hv, hp, hb⟩, hF⟩, st⟩ | ⟨q, st₀, t, T', L, E, ce, h0, X', hL, e1, e2, ⟨u, hp, hb, hF⟩, hce, hcv, hcl, st⟩
  · cases hv
    obtain ⟨k1, k2, k3⟩ := vx_keep h0 e1 hS hA hf hL hF
    obtain ⟨t2, a1, b1⟩ := kk r u t T'.heap (locs ++ L) e1.symm (by rw [← e2]; exact X'.warmed.alike) hp hb k1 k2 k3 T' rfl X'
    exact ⟨t2, st t2 a1, b1⟩
  · obtain ⟨k1, k2, k3⟩ := vx_keep h0 e1 hS hAX hf hL hF
    obtain ⟨t2, a1, b1⟩ := kx E ce q u t T'.heap (locs ++ L) e1.symm (by rw [← e2]; exact X'.warmed.alike) hp hb k1 k2 k3 (by rw [e1]; exact hce) hcv hcl T' rfl X'
    exact ⟨t2, st.trans a1, b1⟩
theorem vx_callv {S SX : Type} {post : S → Prop} {px : SX → Prop} {B : S → State → Prop} {BX : String → SX → State → Prop} {AX : Nat → Prop} (hr : vx_Run p l e R s m args below meth c H locs cells slots mc ms (F0 m pc ls st0) rest (va_Qv post B A1 a) (vx_X px BX AX) free) (hS : va_S A0 H0 H locs) (hA : ∀ q, q < H.size → A1 q → A0 q) (hf : ∀ q, free q → A0 q) (hAX : ∀ q, q < H.size → AX q → A0 q)
    (kx : ∀ (E : String) (ce : Cell) (q9 : Addr) (u : SX) (t : State) (H1 : Heap) (locs1 : List Loc), t.heap = H1 → s.vm.Alike t.vm → px u → BX E u t → H.size ≤ H1.size → (∀ q : Nat, q < H.size → ¬ AX q → H1[q]? = H[q]?) → va_S A0 H0 H1 locs1 → H1[q9]? = some ce → ce.vm = .none → s.vm.findClass E = some ce.cls → vx_W p l e R s m args below meth c H1 locs1 (cells + mc) (slots + ms) Q (F0 m pc ls rest) q9)
    (kk : ∀ (u : S) (t : State) (H1 : Heap) (locs1 : List Loc), t.heap = H1 → s.vm.Alike t.vm → post u → B u t → H.size ≤ H1.size → (∀ q : Nat, q < H.size → ¬ A1 q → H1[q]? = H[q]?) → va_S A0 H0 H1 locs1 → W p l e R s m args below meth c H1 locs1 (cells + mc) (slots + ms) Q (F0 m (pc + 3) ls (rest))) : W p l e R s m args below meth c H locs cells slots Q (F0 m pc ls st0) := by
  intro T hT X
  rcases hr T hT X with ⟨v, st₀, t, T', L, h0, X', hL, e1, e2, ⟨⟨u, hv, hp, hb⟩, hF⟩, st⟩ | ⟨q, st₀, t, T', L, E, ce, h0, X', hL, e1, e2, ⟨u, hp, hb, hF⟩, hce, hcv, hcl, st⟩
  · cases hv
    obtain ⟨k1, k2, k3⟩ := vx_keep h0 e1 hS hA hf hL hF
    obtain ⟨t2, a1, b1⟩ := kk u t T'.heap (locs ++ L) e1.symm (by rw [← e2]; exact X'.warmed.alike) hp hb k1 k2 k3 T' rfl X'
    exact ⟨t2, st t2 a1, b1⟩
  · obtain ⟨k1, k2, k3⟩ := vx_keep h0 e1 hS hAX hf hL hF
    obtain ⟨t2, a1, b1⟩ := kx E ce q u t T'.heap (locs ++ L) e1.symm (by rw [← e2]; exact X'.warmed.alike) hp hb k1 k2 k3 (by rw [e1]; exact hce) hcv hcl T' rfl X'
    exact ⟨t2, st.trans a1, b1⟩
/-- caught by the row x of this method's table; the rows ahead don't take it -/
theorem vx_catch {own name : String} {E : String} {ce : Cell} {q : Addr} (hown : s.vm.findClass own = some m.cls) (pre : List ExceptionTableEntry) (x : ExceptionTableEntry) (suf : List ExceptionTableEntry) (hsplit : c.exceptionTable.toList = pre ++ x :: suf)
    (hpass : ∀ z ∈ pre, covers z pc = false ∨ (z.catchType ≠ 0 ∧ ∃ nm : String, (Cond.classLink own z.catchType nm).before args s = true ∧ va_Nc E nm s)) (hx : covers x pc = true) (h0 : x.catchType ≠ 0)
    (hlink : (Cond.classLink own x.catchType name).before args s = true) (hcast : (Cond.castable E name).before args s = true) (hcell : H[q]? = some ce) (hv : ce.vm = .none) (hcl : s.vm.findClass E = some ce.cls)
    (kk : W p l e R s m args below meth c H locs cells slots Q (F0 m x.handlerPc ls [.ref q])) : vx_W p l e R s m args below meth c H locs cells slots Q (F0 m pc ls rest) q := by
  intro T hT X
  have hpl : e.platform.magicAccessors = ({} : Platform).magicAccessors := by rw [X.admits.platform]
  obtain ⟨c3, c4, hc3, hc4, hasg⟩ := Cond.castable_spec hcast
  cases Option.some.inj (hc3.symm.trans hcl)
  obtain ⟨c5, hc5, hcl5⟩ := Cond.classLink_spec hown hlink e.platform hpl
  cases Option.some.inj (hc4.symm.trans hc5)
  obtain ⟨vm', X', st⟩ := X.thenCaughtThrough q (g := F0 m pc ls rest) rfl (Steps.refl _) (by rw [hT]; exact hcell) (by rw [hv]; rfl) (by obtain ⟨k9, h9, -⟩ := Vm.findClass_spec hcl; exact ⟨k9, h9⟩) pre x suf hsplit
    (fun z hz => by
      rcases hpass z hz with h | ⟨hz0, nm, hl1, hn1⟩
      · exact Or.inl h
      · obtain ⟨c6, hc6, hcl6⟩ := Cond.classLink_spec hown hl1 e.platform hpl
        obtain ⟨a8, b8, h1, h2, h3⟩ := hn1
        cases Option.some.inj (h1.symm.trans hcl)
        cases Option.some.inj (h2.symm.trans hc6)
        exact Or.inr ⟨hz0, _, hcl6, h3⟩) hx (Or.inr ⟨h0, c4, hcl5, hasg⟩)
  obtain ⟨t, a1, b1⟩ := kk (T.setVm vm') hT X'
  exact ⟨t, st.trans a1, b1⟩
end Rows
section Ends
variable {p : Program} {l : Launch} {e : Env} {R : Room} {s : State} {m : MethodId} {args : Array Value} {below : List Frame} {meth : Method} {c : Code} {H : Heap} {locs : List Loc} {cells slots : Nat} {Q : State → Prop}
variable {mc ms : Nat} {free : Addr → Prop} {A0 A1 : Nat → Prop} {H0 : Heap} {a : Array Value} {ls : Array Slot} {st0 rest : List Value}
variable {Qc : Array Value → State → Outcome → State → Prop} {XC : String → State → State → Prop}
/-- what a body that may throw owes at its end -/
def vx_MQ (below : List Frame) (Qc : Array Value → State → Outcome → State → Prop) (XC : String → State → State → Prop) (a : Array Value) (s : State) (mc ms : Nat) (free : Addr → Prop) : State → Prop := fun t =>
  ∃ o, t.status = .running ∧ Ended t below o ∧ vx_Q Qc XC mc ms free a s o t
theorem vx_ret {g : JFrame} {mc ms : Nat} (k : W p l e R s m args below meth c H locs cells slots (MQ below Qc args s mc ms free) g) : W p l e R s m args below meth c H locs cells slots (vx_MQ below Qc XC args s mc ms free) g := by
  intro T hT X
  obtain ⟨t, a1, o, b1, b2, b3, b4⟩ := k T hT X
  exact ⟨t, a1, o, b1, b2, Or.inl ⟨b3, b4⟩⟩
/-- not caught here: it goes on to the caller -/
theorem vx_widen {g : JFrame} {q : Addr} {k n : Nat} (h1 : cells ≤ k) (h2 : slots ≤ n) (kk : vx_W p l e R s m args below meth c H locs k n Q g q) : vx_W p l e R s m args below meth c H locs cells slots Q g q := fun T hT X => kk T hT (stand_widen X h1 h2)
theorem vx_out {pc : Nat} {E : String} {ce : Cell} {q : Addr} {mc ms : Nat} (hout : ∀ x ∈ c.exceptionTable.toList, covers x pc = false) (hlocks : meth.locks = false) (hcell : H[q]? = some ce) (hv : ce.vm = .none) (hcl : s.vm.findClass E = some ce.cls)
    (hx : ∀ t : State, t.heap = H → s.vm.Alike t.vm → XC E s t) (hf : ∀ z ∈ locs, free z.base) (hc : cells ≤ mc) (hs : slots ≤ ms) :
    vx_W p l e R s m args below meth c H locs cells slots (vx_MQ below Qc XC args s mc ms free) (F0 m pc ls rest) q := by
  intro T hT X
  obtain ⟨st1, hrun, hend, hW, hsm⟩ := X.leaveThrown q (g := F0 m pc ls rest) rfl rfl rfl hout hlocks
  have hcell9 : (T.setFrames (.throwing q :: below)).heap[q]? = some ce := by
    show T.heap[q]? = some ce
    rw [hT]; exact hcell
  exact ⟨_, st1, .threw q, hrun, hend, Or.inr ⟨q, rfl, E, ce, locs, hx _ hT hW.alike, hcell9, hv, hcl, hW, hsm.mono hc hs, hf⟩⟩
theorem vx_frame {U : State} {k n : Nat} (h : s.sameButNew ({ U with vm := s.vm } : State) locs k n) : s.heap.size ≤ U.heap.size ∧ ∀ q : Nat, q < s.heap.size → (∀ z ∈ locs, z.base ≠ q) → U.heap[q]? = s.heap[q]? := by
  obtain ⟨-, h2, -, -, -, h6⟩ := h
  refine ⟨h2, fun q hq hz => ?_⟩
  obtain ⟨c9, e1, e2, e3, e4⟩ := h6 q _ (Array.getElem?_eq_getElem hq)
  have hs : c9.slots = (s.heap[q]).slots := Array.ext_getElem? fun i => e4 i fun hm => hz _ hm rfl
  have h9 : c9 = s.heap[q] := by
    rw [hs] at e2
    exact e2
  have e5 : U.heap[q]? = some c9 := e1
  rw [e5, h9, Array.getElem?_eq_getElem hq]
/-- the words of a throw but the four that speak of the heap -/
def vx_no (w : Cond) : Bool := decide (w ≠ .isRef (.static Bundle.tN "UNASSIGNED_STACK" Bundle.steD)) && decide (w ≠ .isRef (.static Bundle.tN "SUPPRESSED_SENTINEL" Bundle.listD)) && decide (w ≠ .laysStatic Bundle.tN "UNASSIGNED_STACK" Bundle.steD) && decide (w ≠ .laysStatic Bundle.tN "SUPPRESSED_SENTINEL" Bundle.listD)
def vx_at0 (own : String) (ic : Nat) (X : String) (names : List String) : List Cond := (Bundle.ownAtoms0 own ic X names).filter vx_no
def vx_atS (own : String) (ic : Nat) (X : String) (names : List String) : List Cond := (Bundle.ownAtoms own ic X names).filter vx_no
/-- a word that the tables alone decide, or a good one -/
def vx_ot (w : Cond) : Bool := w.onTables || goodWord w
theorem vx_ot_at {args a' : Array Value} {s U : State} {w : Cond} (hW : s.WarmedH U.vm) (hvm : s.vm = U.vm) (hg : vx_ot w = true) (h : w.before args s = true) : w.before a' U = true := by
  simp only [vx_ot, Bool.or_eq_true] at hg
  rcases hg with hg | hg
  · exact va_tabs hg hvm h
  · exact word_at hW (good_of_word hg) h
/-- a list's words: the good ones out of the method's own list, the others by premises of their own -/
theorem vx_hat {args : Array Value} {s : State} {L B : List Cond} (h1 : ∀ w ∈ L.filter goodWord, w.before args s = true) (h2 : ∀ w ∈ L.filter (fun w => !goodWord w), w ∈ B) (h3 : ∀ w ∈ B, w.before args s = true) : ∀ w ∈ L, w.before args s = true := by
  intro w hw
  by_cases g : goodWord w = true
  · exact h1 w (List.mem_filter.mpr ⟨hw, g⟩)
  · refine h3 w (h2 w (List.mem_filter.mpr ⟨hw, ?_⟩))
    show (!goodWord w) = true
    cases hgw : goodWord w
    · rfl
    · exact absurd hgw g
theorem vx_c {args : Array Value} {s : State} {w : Cond} {B : List Cond} (h : w.before args s = true) (t : ∀ w ∈ B, w.before args s = true) : ∀ w' ∈ w :: B, w'.before args s = true := fun w' h' => (List.mem_cons.mp h').elim (fun e => by rw [e]; exact h) (t w')
theorem vx_n {args : Array Value} {s : State} : ∀ w ∈ ([] : List Cond), w.before args s = true := fun _ h => nomatch h
theorem vx_own {args : Array Value} {s : State} {L : List Cond} (h1 : ∀ w ∈ L.filter vx_no, w.before args s = true)
    (hU : (Cond.isRef (.static Bundle.tN "UNASSIGNED_STACK" Bundle.steD)).before args s = true) (hN : (Cond.isRef (.static Bundle.tN "SUPPRESSED_SENTINEL" Bundle.listD)).before args s = true)
    (lU : (Cond.laysStatic Bundle.tN "UNASSIGNED_STACK" Bundle.steD).before args s = true) (lN : (Cond.laysStatic Bundle.tN "SUPPRESSED_SENTINEL" Bundle.listD).before args s = true) : ∀ w ∈ L, w.before args s = true := by
  intro w hw
  by_cases e1 : w = .isRef (.static Bundle.tN "UNASSIGNED_STACK" Bundle.steD)
  · rw [e1]; exact hU
  · by_cases e2 : w = .isRef (.static Bundle.tN "SUPPRESSED_SENTINEL" Bundle.listD)
    · rw [e2]; exact hN
    · by_cases e3 : w = .laysStatic Bundle.tN "UNASSIGNED_STACK" Bundle.steD
      · rw [e3]; exact lU
      · by_cases e4 : w = .laysStatic Bundle.tN "SUPPRESSED_SENTINEL" Bundle.listD
        · rw [e4]; exact lN
        · exact h1 w (List.mem_filter.mpr ⟨hw, by unfold vx_no; rw [decide_eq_true e1, decide_eq_true e2, decide_eq_true e3, decide_eq_true e4]; rfl⟩)
/-- where a static field lies, its class's statics cell in H -/
def vx_L (C n d : String) (A : Nat → Prop) (U : State) (H : Heap) : Prop := ∃ (c : ClassId) (k : Class) (i : Nat) (f : Field) (a : Nat) (cell : Cell), U.vm.findClass C = some c ∧ U.fieldFound? C n d = some (c, k, i, f) ∧ f.isStatic = true ∧ k.statics = some a ∧ H[a]? = some cell ∧ cell.vm.isStatics = true ∧ cell.cls = c ∧ f.slot < cell.slots.size ∧ k.staticTypes[f.slot]? = some f.type ∧ ¬ A a
theorem vx_L.moved {C n d : String} {A : Nat → Prop} {u U : State} {H : Heap} (hvm : u.vm.Alike U.vm) (h : vx_L C n d A u H) : vx_L C n d A U H := by
  obtain ⟨c, k, i, f, a, cell, h1, h2, h3, h4, h5, h6, h7, h8, h9, h10⟩ := h
  obtain ⟨k', hi', he⟩ := State.fieldFound?_setVm hvm h2
  exact ⟨c, k', i, f, a, cell, by rw [hvm.findClass]; exact h1, hi', h3, by rw [he]; exact h4, h5, h6, h7, h8, by rw [he]; exact h9, h10⟩
theorem vx_L.kept {C n d : String} {A : Nat → Prop} {U : State} {H H1 : Heap} (h : vx_L C n d A U H) (hq : ∀ a : Nat, a < H.size → ¬ A a → H1[a]? = H[a]?) : vx_L C n d A U H1 := by
  obtain ⟨c, k, i, f, a, cell, h1, h2, h3, h4, h5, h6, h7, h8, h9, h10⟩ := h
  exact ⟨c, k, i, f, a, cell, h1, h2, h3, h4, by rw [hq a (Array.getElem?_eq_some_iff.mp h5).1 h10]; exact h5, h6, h7, h8, h9, h10⟩
theorem vx_L.narrow {C n d : String} {A B : Nat → Prop} {U : State} {H : Heap} (h : vx_L C n d A U H) (hAB : ∀ q, B q → A q) : vx_L C n d B U H := by
  obtain ⟨c, k, i, f, a, cell, h1, h2, h3, h4, h5, h6, h7, h8, h9, h10⟩ := h
  exact ⟨c, k, i, f, a, cell, h1, h2, h3, h4, h5, h6, h7, h8, h9, fun z => h10 (hAB _ z)⟩
theorem vx_L.word {C n d : String} {A : Nat → Prop} {s : State} {args : Array Value} (h : vx_L C n d A s s.heap) : (Cond.laysStatic C n d).before args s = true := by
  obtain ⟨c, k, i, f, a, cell, h1, h2, h3, h4, h5, h6, h7, h8, h9, -⟩ := h
  show (Cond.laysStatic C n d).holds args s none s [] = true
  exact Cond.laysStatic_of h1 h2 h3 h4 h5 h6 h7 h8 h9
/-- .. and what it holds: null or some reference -/
def vx_Zq (C n d : String) (A : Nat → Prop) (U : State) (H : Heap) : Prop := va_Zq C n d A U H ∧ vx_L C n d A U H
theorem vx_Zq.moved {C n d : String} {A : Nat → Prop} {u U : State} {H : Heap} (hvm : u.vm.Alike U.vm) (h : vx_Zq C n d A u H) : vx_Zq C n d A U H := ⟨va_Zq.moved hvm h.1, vx_L.moved hvm h.2⟩
theorem vx_Zq.kept {C n d : String} {A : Nat → Prop} {U : State} {H H1 : Heap} (h : vx_Zq C n d A U H) (hq : ∀ a : Nat, a < H.size → ¬ A a → H1[a]? = H[a]?) : vx_Zq C n d A U H1 := ⟨va_Zq.kept h.1 hq, vx_L.kept h.2 hq⟩
theorem vx_Zq.narrow {C n d : String} {A B : Nat → Prop} {U : State} {H : Heap} (h : vx_Zq C n d A U H) (hAB : ∀ q, B q → A q) : vx_Zq C n d B U H := ⟨va_Zq.narrow h.1 hAB, vx_L.narrow h.2 hAB⟩
theorem vx_Zqof {args : Array Value} {s : State} {C n d : String} {A : Nat → Prop} (hl : (Cond.laysStatic C n d).before args s = true) (hini : (Cond.initialized C).before args s = true) (h : (Cond.isRef (.static C n d)).before args s = true) (hA : ∀ a : Nat, a < s.heap.size → ¬ A a) : vx_Zq C n d A s s.heap := by
  refine ⟨va_Zqof hl hini h hA, ?_⟩
  obtain ⟨c, k, i, f, a, cell, h1, h2, h3, h4, h5, h6, h7, h8, h9⟩ := Cond.laysStatic_spec hl
  exact ⟨c, k, i, f, a, cell, h1, h2, h3, h4, h5, h6, h7, h8, h9, hA a (Array.getElem?_eq_some_iff.mp h5).1⟩
theorem vx_isRef {C n d : String} {v : Value} {A : Nat → Prop} {s : State} {args : Array Value} (h : va_Z C n d v A s s.heap) (hv : v.isRef = true) : (Cond.isRef (.static C n d)).before args s = true := by
  obtain ⟨cf, kf, fi, f, a, cell, h1, h2, h3, h4, h5, h6, h7, -⟩ := h
  have he : (Term.static C n d).eval args s none [] s = some v := by
    simp [Term.eval, State.fieldNamed?, h1, h2, h4, h5, h6, h7]
  simp only [Cond.before, Cond.holds, Cond.value, he]
  cases v <;> simp_all [Value.isRef]
theorem vx_isRefq {C n d : String} {A : Nat → Prop} {s : State} {args : Array Value} (h : va_Zq C n d A s s.heap) : (Cond.isRef (.static C n d)).before args s = true := by
  rcases h with h | ⟨t, h⟩
  · exact vx_isRef h rfl
  · exact vx_isRef h rfl
/-- the same frame, seen from here: as if the method were called anew in this heap -/
theorem vx_rebase {T : State} (X : Stand p l e R s m args below meth c T locs cells slots) {R' : Room} (hf : R'.frames ≤ R.frames) (hl : R'.locals ≤ R.locals) (hc : cells + R'.cells ≤ R.cells) (hs : slots + R'.slots ≤ R.slots) :
    Stand p l e R' ((T.setVm s.vm).setFrames (.invoking m args :: below)) m args below meth c T [] 0 0 := by
  have htop : (T.setVm s.vm).topJava?.isSome := X.here.top
  have hF : ((T.setVm s.vm).setFrames (.invoking m args :: below)).frames = .invoking m args :: below := State.frames_setFrames _ (State.cur_lt_of_top htop)
  obtain ⟨g₀, hg0⟩ := Option.isSome_iff_exists.mp htop
  obtain ⟨r, hr⟩ := State.topJava?_eq_some.mp hg0
  have hl9 : e.platform.stackLimits (T.setVm s.vm).me = e.platform.stackLimits s.me := X.limits
  have hb9 : (T.setVm s.vm).me.stackBytes = s.me.stackBytes := X.bytes
  refine ⟨X.admits, X.cas, X.clock, hF, ?_, X.hears, X.method, X.code, X.here, X.tail, X.warmed, ?_, ?_, ?_⟩
  · have h := X.room
    have hU : ((T.setVm s.vm).setFrames (.invoking m args :: below)).localsInUse = s.localsInUse := by
      rw [State.localsInUse_invoking hF (meth := meth) (c := c) X.method X.code, State.localsInUse_invoking X.frames X.method X.code]
    simp only [State.hasRoom, Bool.and_eq_true, decide_eq_true_eq] at h ⊢
    obtain ⟨⟨⟨⟨h1, h2, h3, h4, h5, h6⟩, h7⟩, h8⟩, h9⟩ := h
    rw [X.frames, List.length_cons] at h2 h3
    have q1 := X.heapSize
    have q2 := X.used
    simp only [hF, hU, List.length_cons, State.stackLimits_setFrames, State.stackBytes_setFrames, hl9, hb9]
    refine ⟨⟨⟨⟨by omega, by omega, by omega, by omega, by omega, h6⟩, ?_⟩, ?_⟩, X.book⟩
    · show T.heap.size + R'.cells ≤ e.platform.maxCells
      omega
    · show T.slotsUsed + R'.slots ≤ e.platform.maxSlots
      omega
  · rw [State.stackLimits_setFrames]; rfl
  · rw [State.stackBytes_setFrames]; rfl
  · refine ⟨?_, Nat.le_refl _, Nat.le_refl _, ?_, ?_, fun a c9 h9 => ⟨c9, h9, rfl, rfl, fun _ _ => rfl⟩⟩
    · obtain ⟨t, ht, -⟩ := State.frames_cons hr
      show T.setVm s.vm = { ((T.setVm s.vm).setFrames (.invoking m args :: below)).setFrames (T.setVm s.vm).frames with heap := T.heap, slotsUsed := T.slotsUsed }
      rw [State.setFrames_setFrames, State.setFrames_self ht]
      rfl
    · show T.slotsUsed = T.slotsUsed + ((T.heap.toList.drop T.heap.size).map (·.slots.size)).sum
      rw [List.drop_eq_nil_of_le (Nat.le_of_eq Array.length_toList)]
      rfl
    · show ((T.heap.toList.drop T.heap.size).map (·.slots.size)).sum ≤ 0
      rw [List.drop_eq_nil_of_le (Nat.le_of_eq Array.length_toList)]
      exact Nat.le_refl _
/-- 'throw new E()': new; dup; invokespecial; athrow -/
theorem vx_throw0 {cc : ByteArray} {pc : Nat} (hexec : p.tables.exec = Jvm.exec) (hb : c.code = cc) (hl : l.stackTraces = false) {own cls : String} {names : List String} {ik ic mc ms : Nat} {A : Nat → Prop}
    (hown : s.vm.findClass own = some m.cls) (hcls : Bundle.fit cls = true) (hnames : ∀ n ∈ names, Bundle.fit n = true)
    (hk : (Cond.classLink own ik cls).before args s = true) (hini : (Cond.initialized cls).before args s = true) (hat : ∀ w ∈ vx_at0 own ic cls names, w.before args s = true)
    (hgood : ∀ w ∈ Cond.classLink own ik cls :: Cond.initialized cls :: vx_at0 own ic cls names, vx_ot w = true)
    (hU : vx_Zq Bundle.tN "UNASSIGNED_STACK" Bundle.steD A s s.heap) (hN : vx_Zq Bundle.tN "SUPPRESSED_SENTINEL" Bundle.listD A s s.heap) (hS : va_S A s.heap H locs) (hsize : ls.size = c.maxLocals)
    (d0 : decode cc pc = .ok (.new ik, 3)) (d3 : decode cc (pc + 3) = .ok (.dup, 1)) (d4 : decode cc (pc + 4) = .ok (.invokespecial ic, 3)) (d7 : decode cc (pc + 7) = .ok (.athrow, 1))
    (hout : ∀ x ∈ c.exceptionTable.toList, covers x (pc + 7) = false)
    (hRframes : names.length + 3 < R.frames) (hRlocals : (rest.map fun v => v.category).sum + (13 * (names.length + 1) + 42) ≤ R.locals) (hRcells : cells + 1 ≤ R.cells) (hRslots : slots + 6 ≤ R.slots) (hlocks : meth.locks = false)
    (hx : ∀ t : State, s.vm.Alike t.vm → H.size ≤ t.heap.size → (∀ q : Nat, q < H.size → t.heap[q]? = H[q]?) → XC cls s t)
    (hf : ∀ z ∈ locs, free z.base) (hc : cells + 1 ≤ mc) (hs : slots + 6 ≤ ms) :
    W p l e R s m args below meth c H locs cells slots (vx_MQ below Qc XC args s mc ms free) (F0 m pc ls rest) := by
  intro T hT X
  have htr : e.platform.stackTraces = false := (show e.platform.stackTraces = l.stackTraces by rw [X.admits.platform]).trans hl
  have Y := vx_rebase X (R' := { frames := R.frames, locals := R.locals, cells := 1, slots := 6 }) (Nat.le_refl _) (Nat.le_refl _) hRcells hRslots
  obtain ⟨s', hA⟩ : ∃ z, z = (T.setVm s.vm).setFrames (.invoking m args :: below) := ⟨_, rfl⟩
  rw [← hA] at Y
  have hvm : s'.vm = s.vm := by rw [hA]; rfl
  have hhp : s'.heap = H := by rw [hA]; exact hT
  have hW0 : s.WarmedH s'.vm := by rw [hvm]; exact State.WarmedH.refl s
  have hat' : ∀ w ∈ vx_at0 own ic cls names, w.before args s' = true := fun w hw => vx_ot_at hW0 hvm.symm (hgood w (List.mem_cons_of_mem _ (List.mem_cons_of_mem _ hw))) (hat w hw)
  have hk' : (Cond.classLink own ik cls).before args s' = true := vx_ot_at hW0 hvm.symm (hgood _ List.mem_cons_self) hk
  have hini' : (Cond.initialized cls).before args s' = true := vx_ot_at hW0 hvm.symm (hgood _ (List.mem_cons_of_mem _ List.mem_cons_self)) hini
  have hU' : vx_Zq Bundle.tN "UNASSIGNED_STACK" Bundle.steD A s' s'.heap := by rw [hhp]; exact vx_Zq.moved hW0.alike (hU.kept hS.2.1)
  have hN' : vx_Zq Bundle.tN "SUPPRESSED_SENTINEL" Bundle.listD A s' s'.heap := by rw [hhp]; exact vx_Zq.moved hW0.alike (hN.kept hS.2.1)
  have h : ∀ w ∈ Bundle.ownAtoms0 own ic cls names, w.before args s' = true := vx_own hat' (vx_isRefq hU'.1) (vx_isRefq hN'.1) hU'.2.word hN'.2.word
  have hown' : s'.vm.findClass own = some m.cls := by rw [hvm]; exact hown
  have hins : (Cond.instantiable cls 6).before args s' = true := h _ (by simp [Bundle.ownAtoms0])
  obtain ⟨vm₁, cX, kX, hfX, hkX, -, -, X₁, st1⟩ := Y.newCold hexec (own := own) (C := cls) (index := ik) (n := 6) hown' hk' hins hini'
    (g := F0 m pc ls rest) rfl (by rw [hb]; exact d0) (Nat.le_refl _) (Nat.le_refl _)
  generalize hT1 : (T.setVm vm₁).pushCell { cls := cX, slots := kX.instanceTypes.map defaultValue, vm := .none } = T1 at X₁ st1
  have hcat : (Value.ref T.heap.size).category = 1 := rfl
  have hcellA : T1.heap[T.heap.size]? = some (freshCell cX kX) := by rw [← hT1]; exact State.heap_pushCell_size _ _
  have d3' : decode c.code (pc + 3) = .ok (.dup, 1) := by rw [hb]; exact d3
  obtain ⟨U, hsteps, hrun, hend, hW, hsame, ce, hce, hO⟩ := X₁.ctorThrow0 hexec htr (own := own) (cls := cls) (names := names) (ic := ic) hown' hcls hnames h (fun x hx => nomatch hx) hfX hkX hcellA (by rw [hhp, hT]; exact Nat.le_refl _)
    (g := { method := m, pc := pc + 4, locals := ls, stack := .ref T.heap.size :: .ref T.heap.size :: rest, locked := none }) rfl hsize rfl rfl (rest := rest) rfl
    (by rw [hb]; exact d4) (by rw [hb]; exact d7) hout hRframes (by simp only [List.map_cons, List.sum_cons, hcat]; omega) hlocks
  obtain ⟨f1, f2⟩ := vx_frame hsame
  rw [hhp] at f1 f2
  have hWs : s.WarmedH U.vm := State.WarmedH.trans hW0 hW
  have hcl : s.vm.findClass cls = some ce.cls := by
    have h9 := hO.cls
    rw [hvm] at h9
    exact h9
  have hall : s.sameButNew ({ U with vm := s.vm } : State) locs mc ms := by
    subst hA
    obtain ⟨e1, e2⟩ := hsame
    rw [State.setFrames_setFrames] at e1
    have h2 : (T.setVm s.vm).sameButNew ({ U with vm := s.vm } : State) [] (0 + 1) (0 + 6) := ⟨e1, e2⟩
    have h3 := X.same.trans h2
    rw [List.append_nil] at h3
    exact h3.mono hc hs
  refine ⟨U, ?_, .threw T.heap.size, hrun, hend, Or.inr ⟨T.heap.size, rfl, cls, ce, locs, hx U hWs.alike f1 (fun q hq => f2 q hq (fun z hz => nomatch hz)), hce, hO.vm, hcl, hWs, hall, hf⟩⟩
  refine st1 _ ?_
  show Steps p.tables e below (T1.setTop { method := m, pc := pc + 3, locals := ls, stack := .ref T.heap.size :: rest, locked := none }) _
  jvm_step X₁.here [X₁.here.top, hexec, d3', Value.category]
  exact hsteps
/-- 'throw new E("text")': new; dup; ldc; invokespecial; athrow -/
theorem vx_throwS {cc : ByteArray} {pc : Nat} (hexec : p.tables.exec = Jvm.exec) (hb : c.code = cc) (hl : l.stackTraces = false) {own cls text : String} {names : List String} {ik is ic mc ms sa : Nat} {A : Nat → Prop}
    (hown : s.vm.findClass own = some m.cls) (hcls : Bundle.fit cls = true) (hnames : ∀ n ∈ names, Bundle.fit n = true)
    (hk : (Cond.classLink own ik cls).before args s = true) (hini : (Cond.initialized cls).before args s = true) (hstr : vk_R own is text sa s) (hat : ∀ w ∈ vx_atS own ic cls names, w.before args s = true)
    (hgood : ∀ w ∈ Cond.classLink own ik cls :: Cond.initialized cls :: vx_atS own ic cls names, vx_ot w = true)
    (hU : vx_Zq Bundle.tN "UNASSIGNED_STACK" Bundle.steD A s s.heap) (hN : vx_Zq Bundle.tN "SUPPRESSED_SENTINEL" Bundle.listD A s s.heap) (hS : va_S A s.heap H locs) (hsize : ls.size = c.maxLocals)
    (d0 : decode cc pc = .ok (.new ik, 3)) (d3 : decode cc (pc + 3) = .ok (.dup, 1)) (d4 : decode cc (pc + 4) = .ok (.ldc is, 2)) (d6 : decode cc (pc + 6) = .ok (.invokespecial ic, 3)) (d9 : decode cc (pc + 9) = .ok (.athrow, 1))
    (hout : ∀ x ∈ c.exceptionTable.toList, covers x (pc + 9) = false)
    (hRframes : names.length + 3 < R.frames) (hRlocals : (rest.map fun v => v.category).sum + (13 * (names.length + 1) + 43) ≤ R.locals) (hRcells : cells + 1 ≤ R.cells) (hRslots : slots + 6 ≤ R.slots) (hlocks : meth.locks = false)
    (hx : ∀ t : State, s.vm.Alike t.vm → H.size ≤ t.heap.size → (∀ q : Nat, q < H.size → t.heap[q]? = H[q]?) → XC cls s t)
    (hf : ∀ z ∈ locs, free z.base) (hc : cells + 1 ≤ mc) (hs : slots + 6 ≤ ms) :
    W p l e R s m args below meth c H locs cells slots (vx_MQ below Qc XC args s mc ms free) (F0 m pc ls rest) := by
  intro T hT X
  have htr : e.platform.stackTraces = false := (show e.platform.stackTraces = l.stackTraces by rw [X.admits.platform]).trans hl
  have Y := vx_rebase X (R' := { frames := R.frames, locals := R.locals, cells := 1, slots := 6 }) (Nat.le_refl _) (Nat.le_refl _) hRcells hRslots
  obtain ⟨s', hA⟩ : ∃ z, z = (T.setVm s.vm).setFrames (.invoking m args :: below) := ⟨_, rfl⟩
  rw [← hA] at Y
  have hvm : s'.vm = s.vm := by rw [hA]; rfl
  have hhp : s'.heap = H := by rw [hA]; exact hT
  have hW0 : s.WarmedH s'.vm := by rw [hvm]; exact State.WarmedH.refl s
  have hat' : ∀ w ∈ vx_atS own ic cls names, w.before args s' = true := fun w hw => vx_ot_at hW0 hvm.symm (hgood w (List.mem_cons_of_mem _ (List.mem_cons_of_mem _ hw))) (hat w hw)
  have hk' : (Cond.classLink own ik cls).before args s' = true := vx_ot_at hW0 hvm.symm (hgood _ List.mem_cons_self) hk
  have hini' : (Cond.initialized cls).before args s' = true := vx_ot_at hW0 hvm.symm (hgood _ (List.mem_cons_of_mem _ List.mem_cons_self)) hini
  have hU' : vx_Zq Bundle.tN "UNASSIGNED_STACK" Bundle.steD A s' s'.heap := by rw [hhp]; exact vx_Zq.moved hW0.alike (hU.kept hS.2.1)
  have hN' : vx_Zq Bundle.tN "SUPPRESSED_SENTINEL" Bundle.listD A s' s'.heap := by rw [hhp]; exact vx_Zq.moved hW0.alike (hN.kept hS.2.1)
  have h : ∀ w ∈ Bundle.ownAtoms own ic cls names, w.before args s' = true := vx_own hat' (vx_isRefq hU'.1) (vx_isRefq hN'.1) hU'.2.word hN'.2.word
  have hown' : s'.vm.findClass own = some m.cls := by rw [hvm]; exact hown
  have hins : (Cond.instantiable cls 6).before args s' = true := h _ (by simp [Bundle.ownAtoms])
  obtain ⟨vm₁, cX, kX, hfX, hkX, -, -, X₁, st1⟩ := Y.newCold hexec (own := own) (C := cls) (index := ik) (n := 6) hown' hk' hins hini'
    (g := F0 m pc ls rest) rfl (by rw [hb]; exact d0) (Nat.le_refl _) (Nat.le_refl _)
  generalize hT1 : (T.setVm vm₁).pushCell { cls := cX, slots := kX.instanceTypes.map defaultValue, vm := .none } = T1 at X₁ st1
  have hcat : (Value.ref T.heap.size).category = 1 := rfl
  have hcellA : T1.heap[T.heap.size]? = some (freshCell cX kX) := by rw [← hT1]; exact State.heap_pushCell_size _ _
  have d3' : decode c.code (pc + 3) = .ok (.dup, 1) := by rw [hb]; exact d3
  have d4' : decode c.code (pc + 4) = .ok (.ldc is, 2) := by rw [hb]; exact d4
  have hstr' : vk_R own is text sa s' := vk_R.warm hW0 hstr
  obtain ⟨U, hsteps, hrun, hend, hW, hsame, ce, hce, hO⟩ := X₁.ctorThrowS hexec htr (own := own) (cls := cls) (names := names) (ic := ic) hown' hcls hnames h (fun x hx => nomatch hx) hfX hkX hcellA (by rw [hhp, hT]; exact Nat.le_refl _) (msg := .ref sa) rfl
    (g := { method := m, pc := pc + 6, locals := ls, stack := .ref sa :: .ref T.heap.size :: .ref T.heap.size :: rest, locked := none }) rfl hsize rfl rfl (rest := rest) rfl
    (by rw [hb]; exact d6) (by rw [hb]; exact d9) hout hRframes (by simp only [List.map_cons, List.sum_cons, hcat]; omega) hlocks
  obtain ⟨f1, f2⟩ := vx_frame hsame
  rw [hhp] at f1 f2
  have hWs : s.WarmedH U.vm := State.WarmedH.trans hW0 hW
  have hcl : s.vm.findClass cls = some ce.cls := by
    have h9 := hO.cls
    rw [hvm] at h9
    exact h9
  have hall : s.sameButNew ({ U with vm := s.vm } : State) locs mc ms := by
    subst hA
    obtain ⟨e1, e2⟩ := hsame
    rw [State.setFrames_setFrames] at e1
    have h2 : (T.setVm s.vm).sameButNew ({ U with vm := s.vm } : State) [] (0 + 1) (0 + 6) := ⟨e1, e2⟩
    have h3 := X.same.trans h2
    rw [List.append_nil] at h3
    exact h3.mono hc hs
  refine ⟨U, ?_, .threw T.heap.size, hrun, hend, Or.inr ⟨T.heap.size, rfl, cls, ce, locs, hx U hWs.alike f1 (fun q hq => f2 q hq (fun z hz => nomatch hz)), hce, hO.vm, hcl, hWs, hall, hf⟩⟩
  refine st1 _ ?_
  show Steps p.tables e below (T1.setTop { method := m, pc := pc + 3, locals := ls, stack := .ref T.heap.size :: rest, locked := none }) _
  jvm_step X₁.here [X₁.here.top, hexec, d3', Value.category]
  exact X₁.ldcString hexec (own := own) (text := text) (index := is) (a := sa) hown' hstr'.1 hstr'.2
    (g := { method := m, pc := pc + 4, locals := ls, stack := .ref T.heap.size :: .ref T.heap.size :: rest, locked := none }) rfl d4' _ hsteps
/-- 'throw new E("text")', the text by a wide index -/
theorem vx_throwSW {cc : ByteArray} {pc : Nat} (hexec : p.tables.exec = Jvm.exec) (hb : c.code = cc) (hl : l.stackTraces = false) {own cls text : String} {names : List String} {ik is ic mc ms sa : Nat} {A : Nat → Prop}
    (hown : s.vm.findClass own = some m.cls) (hcls : Bundle.fit cls = true) (hnames : ∀ n ∈ names, Bundle.fit n = true)
    (hk : (Cond.classLink own ik cls).before args s = true) (hini : (Cond.initialized cls).before args s = true) (hstr : vk_R own is text sa s) (hat : ∀ w ∈ vx_atS own ic cls names, w.before args s = true)
    (hgood : ∀ w ∈ Cond.classLink own ik cls :: Cond.initialized cls :: vx_atS own ic cls names, vx_ot w = true)
    (hU : vx_Zq Bundle.tN "UNASSIGNED_STACK" Bundle.steD A s s.heap) (hN : vx_Zq Bundle.tN "SUPPRESSED_SENTINEL" Bundle.listD A s s.heap) (hS : va_S A s.heap H locs) (hsize : ls.size = c.maxLocals)
    (d0 : decode cc pc = .ok (.new ik, 3)) (d3 : decode cc (pc + 3) = .ok (.dup, 1)) (d4 : decode cc (pc + 4) = .ok (.ldc_w is, 3)) (d7 : decode cc (pc + 7) = .ok (.invokespecial ic, 3)) (d10 : decode cc (pc + 10) = .ok (.athrow, 1))
    (hout : ∀ x ∈ c.exceptionTable.toList, covers x (pc + 10) = false)
    (hRframes : names.length + 3 < R.frames) (hRlocals : (rest.map fun v => v.category).sum + (13 * (names.length + 1) + 43) ≤ R.locals) (hRcells : cells + 1 ≤ R.cells) (hRslots : slots + 6 ≤ R.slots) (hlocks : meth.locks = false)
    (hx : ∀ t : State, s.vm.Alike t.vm → H.size ≤ t.heap.size → (∀ q : Nat, q < H.size → t.heap[q]? = H[q]?) → XC cls s t)
    (hf : ∀ z ∈ locs, free z.base) (hc : cells + 1 ≤ mc) (hs : slots + 6 ≤ ms) :
    W p l e R s m args below meth c H locs cells slots (vx_MQ below Qc XC args s mc ms free) (F0 m pc ls rest) := by
  intro T hT X
  have htr : e.platform.stackTraces = false := (show e.platform.stackTraces = l.stackTraces by rw [X.admits.platform]).trans hl
  have Y := vx_rebase X (R' := { frames := R.frames, locals := R.locals, cells := 1, slots := 6 }) (Nat.le_refl _) (Nat.le_refl _) hRcells hRslots
  obtain ⟨s', hA⟩ : ∃ z, z = (T.setVm s.vm).setFrames (.invoking m args :: below) := ⟨_, rfl⟩
  rw [← hA] at Y
  have hvm : s'.vm = s.vm := by rw [hA]; rfl
  have hhp : s'.heap = H := by rw [hA]; exact hT
  have hW0 : s.WarmedH s'.vm := by rw [hvm]; exact State.WarmedH.refl s
  have hat' : ∀ w ∈ vx_atS own ic cls names, w.before args s' = true := fun w hw => vx_ot_at hW0 hvm.symm (hgood w (List.mem_cons_of_mem _ (List.mem_cons_of_mem _ hw))) (hat w hw)
  have hk' : (Cond.classLink own ik cls).before args s' = true := vx_ot_at hW0 hvm.symm (hgood _ List.mem_cons_self) hk
  have hini' : (Cond.initialized cls).before args s' = true := vx_ot_at hW0 hvm.symm (hgood _ (List.mem_cons_of_mem _ List.mem_cons_self)) hini
  have hU' : vx_Zq Bundle.tN "UNASSIGNED_STACK" Bundle.steD A s' s'.heap := by rw [hhp]; exact vx_Zq.moved hW0.alike (hU.kept hS.2.1)
  have hN' : vx_Zq Bundle.tN "SUPPRESSED_SENTINEL" Bundle.listD A s' s'.heap := by rw [hhp]; exact vx_Zq.moved hW0.alike (hN.kept hS.2.1)
  have h : ∀ w ∈ Bundle.ownAtoms own ic cls names, w.before args s' = true := vx_own hat' (vx_isRefq hU'.1) (vx_isRefq hN'.1) hU'.2.word hN'.2.word
  have hown' : s'.vm.findClass own = some m.cls := by rw [hvm]; exact hown
  have hins : (Cond.instantiable cls 6).before args s' = true := h _ (by simp [Bundle.ownAtoms])
  obtain ⟨vm₁, cX, kX, hfX, hkX, -, -, X₁, st1⟩ := Y.newCold hexec (own := own) (C := cls) (index := ik) (n := 6) hown' hk' hins hini'
    (g := F0 m pc ls rest) rfl (by rw [hb]; exact d0) (Nat.le_refl _) (Nat.le_refl _)
  generalize hT1 : (T.setVm vm₁).pushCell { cls := cX, slots := kX.instanceTypes.map defaultValue, vm := .none } = T1 at X₁ st1
  have hcat : (Value.ref T.heap.size).category = 1 := rfl
  have hcellA : T1.heap[T.heap.size]? = some (freshCell cX kX) := by rw [← hT1]; exact State.heap_pushCell_size _ _
  have d3' : decode c.code (pc + 3) = .ok (.dup, 1) := by rw [hb]; exact d3
  have d4' : decode c.code (pc + 4) = .ok (.ldc_w is, 3) := by rw [hb]; exact d4
  have hstr' : vk_R own is text sa s' := vk_R.warm hW0 hstr
  obtain ⟨U, hsteps, hrun, hend, hW, hsame, ce, hce, hO⟩ := X₁.ctorThrowS hexec htr (own := own) (cls := cls) (names := names) (ic := ic) hown' hcls hnames h (fun x hx => nomatch hx) hfX hkX hcellA (by rw [hhp, hT]; exact Nat.le_refl _) (msg := .ref sa) rfl
    (g := { method := m, pc := pc + 7, locals := ls, stack := .ref sa :: .ref T.heap.size :: .ref T.heap.size :: rest, locked := none }) rfl hsize rfl rfl (rest := rest) rfl
    (by rw [hb]; exact d7) (by rw [hb]; exact d10) hout hRframes (by simp only [List.map_cons, List.sum_cons, hcat]; omega) hlocks
  obtain ⟨f1, f2⟩ := vx_frame hsame
  rw [hhp] at f1 f2
  have hWs : s.WarmedH U.vm := State.WarmedH.trans hW0 hW
  have hcl : s.vm.findClass cls = some ce.cls := by
    have h9 := hO.cls
    rw [hvm] at h9
    exact h9
  have hall : s.sameButNew ({ U with vm := s.vm } : State) locs mc ms := by
    subst hA
    obtain ⟨e1, e2⟩ := hsame
    rw [State.setFrames_setFrames] at e1
    have h2 : (T.setVm s.vm).sameButNew ({ U with vm := s.vm } : State) [] (0 + 1) (0 + 6) := ⟨e1, e2⟩
    have h3 := X.same.trans h2
    rw [List.append_nil] at h3
    exact h3.mono hc hs
  refine ⟨U, ?_, .threw T.heap.size, hrun, hend, Or.inr ⟨T.heap.size, rfl, cls, ce, locs, hx U hWs.alike f1 (fun q hq => f2 q hq (fun z hz => nomatch hz)), hce, hO.vm, hcl, hWs, hall, hf⟩⟩
  refine st1 _ ?_
  show Steps p.tables e below (T1.setTop { method := m, pc := pc + 3, locals := ls, stack := .ref T.heap.size :: rest, locked := none }) _
  jvm_step X₁.here [X₁.here.top, hexec, d3', Value.category]
  exact X₁.ldcStringW hexec (own := own) (text := text) (index := is) (a := sa) hown' hstr'.1 hstr'.2
    (g := { method := m, pc := pc + 4, locals := ls, stack := .ref T.heap.size :: .ref T.heap.size :: rest, locked := none }) rfl d4' _ hsteps
end Ends
section Bodies
variable {l : Launch}
theorem vx_ofW {y : MethodName} {ws ws' : List Cond} {rm : Room} {Pc : Array Value → State → Prop} {Qc : Array Value → State → Outcome → State → Prop} {XC : String → State → State → Prop} {mc ms : Nat} {free : Addr → Prop} {cc : ByteArray} {maxL : Nat} {ret : Option FieldType}
    (hy : plainName y.cls = true) (hw : ws = Cond.code y cc maxL ret :: ws')
    (body : ∀ p e s m args below meth c s₁, BodyLoose p l y (headSpec ws rm) cc maxL ret e s m args below meth c s₁ → c.maxLocals = maxL → (∀ x ∈ c.exceptionTable.toList, False) → Pc args s →
      W p l e (headSpec ws rm).room s m args below meth c s.heap [] 0 0 (vx_MQ below Qc XC args s mc ms free) (entryFrame m args maxL)) : vx_Met l y ws rm Pc Qc XC mc ms free := by
  refine MetFree.of_bodyS (code := cc) (maxLocals := maxL) (ret := ret) hy ?_ ?_
  · intro args s m h hn
    obtain ⟨meth, c, h1, h2, h3, h4, h5, h6, -, -⟩ := Cond.code_spec hn (atoms_spec (ws := ws) h _ (by rw [hw]; exact List.mem_cons_self))
    exact ⟨meth, c, h1, h2, h3, h4, h5, h6⟩
  · intro p e s m args below meth c s₁ B hml hP _
    have hh0 : s₁.heap = s.heap := by rw [B.state]; rfl
    have ht : ∀ x ∈ c.exceptionTable.toList, False := by
      obtain ⟨meth9, c9, h1, h2, -, -, -, -, h7, -⟩ := Cond.code_spec B.named (atoms_spec (ws := ws) B.pre _ (by rw [hw]; exact List.mem_cons_self))
      cases Option.some.inj (h1.symm.trans B.method)
      cases Option.some.inj (h2.symm.trans (Stand.of_body B).code)
      intro x hx
      rw [Array.isEmpty_iff.mp h7] at hx
      cases hx
    obtain ⟨t, a1, o, b1, b2, b3⟩ := body p e s m args below meth c s₁ B hml ht hP s₁ hh0 (Stand.of_body B)
    exact ⟨t, o, a1, b1, b2, b3⟩
/-- the table of a body with handlers -/
theorem vx_table {p : Program} {x y : MethodName} {S : Spec} {cc bytes : ByteArray} {maxL maxL' : Nat} {ret ret' : Option FieldType} {e : Env} {s s₁ : State} {m : MethodId} {args : Array Value} {below : List Frame} {meth : Method} {c : Code} {hh : List (Nat × Nat × Nat × Nat)}
    (B : BodyLoose p l y S cc maxL ret e s m args below meth c s₁) (h : (Cond.codeWith y bytes maxL' ret' hh).before args s = true) : c.exceptionTable.toList = tableOf hh := by
  obtain ⟨m9, meth9, c9, hn9, h1, h2, -, -, h6, -⟩ := Cond.codeWith_spec h
  cases Option.some.inj (hn9.symm.trans B.named)
  cases Option.some.inj (h1.symm.trans B.method)
  cases Option.some.inj (h2.symm.trans (Stand.of_body B).code)
  rw [← h6, table_eq]
end Bodies
end VXA
/-! ===== END ===== -/
/-! ===== BEGIN a static call of a method with an exception table ===== -/
section VXS
variable {p : Program} {l : Launch} {e : Env} {R : Room} {s : State} {m : MethodId} {args : Array Value} {below : List Frame} {meth : Method} {c : Code} {T : State} {H : Heap} {locs : List Loc} {cells slots : Nat}
abbrev vx_CSW (R : Room) (s : State) (args : Array Value) (own : String) (index : Nat) (y : MethodName) (bytes : ByteArray) (maxL : Nat) (ret : Option FieldType) (hh : List (Nat × Nat × Nat × Nat)) (ws : List Cond) (rm : Room) (mc ms n : Nat) : Prop :=
  (rm.cells = mc ∧ rm.slots = ms ∧ rm.frames + 1 ≤ R.frames ∧ 8 + (maxL + 11) + rm.locals ≤ R.locals ∧ (∀ w ∈ ws, ∀ (a' : Array Value) (U : State), s.WarmedH U.vm → w.before a' U = true) ∧ Cond.codeWith y bytes maxL ret hh ∈ ws) ∧
  (Cond.codeWith y bytes maxL ret hh).before args s = true ∧ (Cond.initialized y.cls).before args s = true ∧ (y.cls ≠ "java/lang/invoke/MethodHandle" ∧ y.cls ≠ "java/lang/invoke/VarHandle") ∧
  (∀ sig, parseMethodDescriptor y.desc = some sig → n = sig.parameters.length) ∧ (Cond.methodLink own index y).before args s = true ∧ (Cond.static y).before args s = true
theorem vx_cwSW {own : String} {index maxL mc ms : Nat} {y : MethodName} {bytes : ByteArray} {ret : Option FieldType} {hh : List (Nat × Nat × Nat × Nat)} {Ts ws ws' : List Cond} {rm : Room} (n : Nat) (ht : ∀ w ∈ Ts, w.before args s = true) (hT : GoodIn Ts (va_wsS own index y ws)) (hw : ws = Cond.codeWith y bytes maxL ret hh :: ws') (hrc : rm.cells = mc) (hrs : rm.slots = ms)
    (hd : y.cls ≠ "java/lang/invoke/MethodHandle" ∧ y.cls ≠ "java/lang/invoke/VarHandle" ∧ (parseMethodDescriptor y.desc).map (fun d => d.parameters.length) = some n) (hR : rm.frames + 1 ≤ R.frames ∧ 8 + (maxL + 11) + rm.locals ≤ R.locals) :
    vx_CSW R s args own index y bytes maxL ret hh ws rm mc ms n := by
  have ok : ∀ w ∈ va_wsS own index y ws, w.before args s = true := fun w h => ht w (hT w h).1
  have hG : GoodIn Ts ws := fun w h => hT w (by unfold va_wsS; exact List.mem_append_right _ h)
  have hc : Cond.codeWith y bytes maxL ret hh ∈ ws := by rw [hw]; exact List.mem_cons_self
  refine ⟨⟨hrc, hrs, hR.1, hR.2, pay_in ht hG, hc⟩, ht _ (hG _ hc).1, ok _ (by simp [va_wsS]), ⟨hd.1, hd.2.1⟩, fun sig h => ?_, ok _ (by simp [va_wsS]), ok _ (by simp [va_wsS])⟩
  have h2 := hd.2.2
  rw [h] at h2
  exact (Option.some.inj h2).symm
theorem vx_callSW (X : Stand p l e R s m args below meth c T locs cells slots) (hexec : p.tables.exec = Jvm.exec) {own : String} {index : Nat} {y : MethodName} {bytes : ByteArray} {maxL : Nat} {ret : Option FieldType} {hh : List (Nat × Nat × Nat × Nat)}
    (hown : s.vm.findClass own = some m.cls) (hlink : (Cond.methodLink own index y).before args s = true) (hstat : (Cond.static y).before args s = true) (hinit : (Cond.initialized y.cls).before args s = true)
    (hcode : (Cond.codeWith y bytes maxL ret hh).before args s = true) (hy : y.cls ≠ "java/lang/invoke/MethodHandle" ∧ y.cls ≠ "java/lang/invoke/VarHandle")
    {W9 : Nat} {Pre : Pt → Array Value → Prop} {Post : Pt → Array Value → Option Value → Pt → Prop} (hK : Back l R p e below s args y 3 W9 Pre Post)
    {g : JFrame} (hg : g.method = m) (hsize : g.locals.size = c.maxLocals) {argsL rest : List Value} (hlen : ∀ sig, parseMethodDescriptor y.desc = some sig → argsL.length = sig.parameters.length)
    (hstack : g.stack = argsL.reverse ++ rest) (hW : 2 * g.monitorRoom + (rest.map fun v => v.category).sum ≤ W9) (hdg : decode c.code g.pc = .ok (.invokestatic index, 3))
    (hpre : ∀ vm₁, s.WarmedH vm₁ → Pre ⟨T.setVm vm₁, locs, cells, slots⟩ argsL.toArray) :
    ∃ (v : Option Value) (vm₁ : Vm) (B : Pt), s.WarmedH vm₁ ∧ Stand p l e R s m args below meth c B.U B.locs B.cells B.slots ∧ Post ⟨T.setVm vm₁, locs, cells, slots⟩ argsL.toArray v B ∧
      ∀ target, Steps p.tables e below (B.U.setTop { g with pc := g.pc + 3, stack := v.toList ++ rest }) target → Steps p.tables e below (T.setTop g) target := by
  obtain ⟨mk, methM, cM, hnamed, hmethM, -, -, -, -, -, -, hsigM⟩ := Cond.codeWith_spec hcode
  have hstatic : methM.isStatic = true := Cond.static_spec hnamed hmethM hstat
  obtain ⟨kP, hkP, -⟩ := className_of_methodNamed hnamed
  have hinitP : kP.init = .initialized := Cond.initialized_spec (findClass_of_methodNamed hnamed) hkP hinit
  obtain ⟨vm₁, X₁, hstep₁⟩ := X.invokestatic hexec hown hlink hnamed hmethM hstatic hkP hinitP hy (g := g) hg (argsL := argsL) (rest := rest) (hlen _ hsigM) hstack hdg
  obtain ⟨v, B, X', hpost, hsteps⟩ := hK m meth c ⟨T.setVm vm₁, locs, cells, slots⟩ { g with stack := rest } (.invokestatic index) mk argsL.toArray X₁ hg hsize hdg hW (X₁.named hnamed) (hpre vm₁ X₁.warmed)
  exact ⟨v, vm₁, B, X₁.warmed, X', hpost, fun target h => hstep₁ _ fun acts => by rw [doInvoke_state]; exact hsteps.trans h⟩
theorem vx_runSW {y : MethodName} {bytes cc : ByteArray} {maxL nL mc ms n index : Nat} {ret : Option FieldType} {hh : List (Nat × Nat × Nat × Nat)} {ws : List Cond} {rm : Room} {Pc : Array Value → State → Prop} {Qc : Array Value → State → Outcome → State → Prop} {free : Addr → Prop} {Ts : List Cond} {own : String} {As rest : List Value} {g : JFrame}
    (S : CallFix p m c cc nL s args Ts own) (hM : Met l y ws rm Pc Qc mc ms free) (cw : vx_CSW R s args own index y bytes maxL ret hh ws rm mc ms n) (hp : PreS s H Pc As)
    (hg : g.method = m) (hn : As.length = n) (hsize : g.locals.size = nL) (hstack : g.stack = As.reverse ++ rest) (hW : 2 * g.monitorRoom + (rest.map fun v => v.category).sum ≤ 8) (hdg : decode cc g.pc = .ok (.invokestatic index, 3)) (hf : cells + mc ≤ R.cells ∧ slots + ms ≤ R.slots) :
    va_Run p l e R s m args below meth c H locs cells slots mc ms g rest (Qc As.toArray) (free) := by
  obtain ⟨⟨hrc, hrs, hfr, hlo, hws, hcw⟩, hcode, hini, hy, hlen, hl, hstt⟩ := cw
  have hK : Back l R p e below s args y 3 8 (PreOf R mc ms Pc) (PostOf Qc mc ms free) := va_backW (hh := hh) (bytes := bytes) (maxL := maxL) (ret := ret) hM hp.1 hrc hrs hfr hlo hws hcw (fun a' U hW => word_at hW (Or.inl (by first | rfl | simp [Cond.onTables, Cond.keeps, Cond.steady])) hini)
  obtain ⟨hx, hb, hml, ho, -⟩ := S
  intro T hT X
  obtain ⟨v, vm₁, ⟨U', l2, c2, s2⟩, hW₁, X', ⟨g', mk, t, L, e1, e2, hq, h1, hL, h2, h3⟩, st⟩ := vx_callSW X hx (hh := hh) (bytes := bytes) (maxL := maxL) (ret := ret) ho hl hstt hini hcode hy hK hg (hsize.trans hml.symm) (argsL := As) (rest := rest) (fun sig h => hn.trans (hlen sig h)) hstack hW (by rw [hb]; exact hdg)
    (fun vm₁ hW₁ => ⟨hf.1, hf.2, hp.2 (T.setVm vm₁) hT hW₁⟩)
  dsimp only [Pt.U, Pt.locs, Pt.cells, Pt.slots] at X' e1 e2 h1 h2 h3 st
  subst h1; subst h2; subst h3
  exact ⟨v, (T.setVm vm₁).calling g' mk As.toArray, t, U', L, hT, X', hL, e1, e2, hq, st⟩
/-- not caught here, past rows that name other classes: it goes on to the caller -/
theorem vx_outP {p : Program} {l : Launch} {e : Env} {R : Room} {s : State} {m : MethodId} {args : Array Value} {below : List Frame} {meth : Method} {c : Code} {H : Heap} {locs : List Loc} {cells slots : Nat} {free : Addr → Prop} {ls : Array Slot} {rest : List Value} {Qc : Array Value → State → Outcome → State → Prop} {XC : String → State → State → Prop}
    {pc : Nat} {own E : String} {ce : Cell} {q : Addr} {mc ms : Nat} (hown : s.vm.findClass own = some m.cls) (hlocks : meth.locks = false)
    (hpass : ∀ z ∈ c.exceptionTable.toList, covers z pc = false ∨ (z.catchType ≠ 0 ∧ ∃ nm : String, (Cond.classLink own z.catchType nm).before args s = true ∧ va_Nc E nm s)) (hcell : H[q]? = some ce) (hv : ce.vm = .none) (hcl : s.vm.findClass E = some ce.cls)
    (hx : ∀ t : State, t.heap = H → s.vm.Alike t.vm → XC E s t) (hf : ∀ z ∈ locs, free z.base) (hc : cells ≤ mc) (hs : slots ≤ ms) :
    vx_W p l e R s m args below meth c H locs cells slots (vx_MQ below Qc XC args s mc ms free) (F0 m pc ls rest) q := by
  intro T hT X
  have hpl : e.platform.magicAccessors = ({} : Platform).magicAccessors := by rw [X.admits.platform]
  obtain ⟨vm', hW', X', st⟩ := X.outThrough hlocks q (g := F0 m pc ls rest) rfl rfl rfl (cell := ce) (by rw [hT]; exact hcell) (by rw [hv]; rfl)
    (by obtain ⟨k9, h9, -⟩ := Vm.findClass_spec hcl; exact ⟨k9, h9⟩) (fun z hz => by
      rcases hpass z hz with h | ⟨hz0, nm, hl1, hn1⟩
      · exact Or.inl h
      · obtain ⟨c6, hc6, hcl6⟩ := Cond.classLink_spec hown hl1 e.platform hpl
        obtain ⟨a8, b8, h1, h2, h3⟩ := hn1
        cases Option.some.inj (h1.symm.trans hcl)
        cases Option.some.inj (h2.symm.trans hc6)
        exact Or.inr ⟨hz0, _, hcl6, h3⟩)
  obtain ⟨g₀, hfr⟩ := X'.frames_eq
  have hcell9 : ((T.setVm vm').setFrames (.throwing q :: below)).heap[q]? = some ce := by
    show T.heap[q]? = some ce
    rw [hT]; exact hcell
  have hend : Ended ((T.setVm vm').setFrames (.throwing q :: below)) below (.threw q) := State.frames_setFrames _ (State.cur_lt_of_frames hfr)
  refine ⟨(T.setVm vm').setFrames (.throwing q :: below), ?_, .threw q, X'.here.running, hend, Or.inr ⟨q, rfl, E, ce, locs, hx _ hT (X'.ends _).1.alike, hcell9, hv, hcl, (X'.ends _).1, (X'.ends _).2.mono hc hs, hf⟩⟩
  rw [X.pushThrowing_eq]
  exact st
/-- a thing of a world lies in the heap -/
theorem vx_lt {D : va_G} {cl : List vw_C} {ws : va_W} {H1 : Heap} (h : va_P D cl ws H1) {k : Nat} {q : Nat × va_E} (hk : ws[k]? = some q) : q.1 < H1.size := (h k q hk).lt
end VXS
/-! ===== END ===== -/
/-! ===== BEGIN methods with a table of their own: called by a name, returning or throwing ===== -/
section VXH
/-! vx_backW, vx_callVX, vx_callSX, vx_callVW, vx_runVW, vx_runVX, vx_runSX, vx_ofWH follow the same proofs as their sisters above (Free/Laws.lean, Shelf42/LK1.lean); vx_outP calls Shelf42/NT130.lean (outThrough). -/
section
variable {l : Launch} {R : Room} {p : Program} {e : Env} {below : List Frame} {s : State} {sargs : Array Value} {y : MethodName} {len W9 : Nat}
theorem vx_backW {ws : List Cond} {rm : Room} {Pc : Array Value → State → Prop} {Qc : Array Value → State → Outcome → State → Prop} {XC : String → State → State → Prop} {mc ms : Nat} {free : Addr → Prop} {bytes : ByteArray} {maxL : Nat} {ret : Option FieldType} {hh : List (Nat × Nat × Nat × Nat)}
    (hM : vx_Met l y ws rm Pc Qc XC mc ms free) (hblind : FrameBlind Pc) (hrc : rm.cells = mc) (hrs : rm.slots = ms)
    (hframes : rm.frames + 1 ≤ R.frames) (hlocals : W9 + (maxL + 11) + rm.locals ≤ R.locals)
    (hws : ∀ w ∈ ws, ∀ a' U, s.WarmedH U.vm → w.before a' U = true) (hcode : Cond.codeWith y bytes maxL ret hh ∈ ws) (hinit : ∀ a' U, s.WarmedH U.vm → (Cond.initialized y.cls).before a' U = true) :
    vx_Back l R p e below s sargs y len W9 (PreOf R mc ms Pc) (PostOf Qc mc ms free) (vx_Post XC mc ms free) := by
  intro m meth c A g ig mk a X hg hsize hdg hW hn hp
  have h1 : (headSpec ws rm).pre.before a A.U = true := atoms_intro fun w hw => hws w hw _ _ X.warmed
  have h2 : (Cond.codeWith y bytes maxL ret hh).before a A.U = true := hws _ hcode _ _ X.warmed
  have h3 : (Cond.initialized y.cls).before a A.U = true := hinit _ _ X.warmed
  have h4 : A.cells + (headSpec ws rm).room.cells ≤ R.cells := by rw [show (headSpec ws rm).room.cells = mc from hrc]; exact hp.1
  have h5 : A.slots + (headSpec ws rm).room.slots ≤ R.slots := by rw [show (headSpec ws rm).room.slots = ms from hrs]; exact hp.2.1
  have hPc : Pc a (A.U.calling g mk a) := hblind _ _ _ _ hp.2.2
  obtain ⟨U, Ls, c0, s0⟩ := A
  dsimp only [Pt.U, Pt.locs, Pt.cells, Pt.slots] at h1 h2 h3 h4 h5 X hn hPc ⊢
  obtain ⟨m9, methY, cY, hn9, hmY, hcY, -, hlY, -⟩ := Cond.codeWith_spec h2
  cases Option.some.inj (hn9.symm.trans hn)
  obtain ⟨kY, hkY, -⟩ := className_of_methodNamed hn
  have hinitY : kY.init = .initialized := Cond.initialized_spec (findClass_of_methodNamed hn) hkY h3
  have h : At U g.method c below := by rw [hg]; exact X.here
  have hlocals9 : W9 + (maxL + 11) + (headSpec ws rm).room.locals ≤ R.locals := hlocals
  have happ : (headSpec ws rm).appliesLoose y e.platform (U.calling g mk a) = true :=
    Spec.appliesLoose_calling (g := g) h hdg hn hkY hinitY
      (X.room_calling (g := g) (R' := (headSpec ws rm).room) hsize hmY hcY hframes (by rw [hlY]; omega) h4 h5) h1
  obtain ⟨mid, hmid⟩ := h.above
  have hfr : (U.setTop g).frames = (.java g :: mid) ++ below := by rw [State.frames_setTop' g h.top, hmid]; rfl
  obtain ⟨o, s₂, hsteps, -, hend, hq⟩ := Steps.callFree hM p X.admits X.cas X.clock (acts := []) hfr happ hPc trivial
  have hq' : vx_Q Qc XC mc ms free a (U.calling g mk a) o s₂ := hq
  rw [State.frames_setTop' g h.top] at hend
  obtain ⟨g₀, hg0⟩ := Option.isSome_iff_exists.mp h.top
  obtain ⟨r, hr⟩ := State.topJava?_eq_some.mp hg0
  have hr' : (({ U with heap := s₂.heap, slotsUsed := s₂.slotsUsed } : State).setVm s₂.vm).frames = .java g₀ :: r := hr
  rcases hq' with ⟨hqc, L, hfe, hL⟩ | ⟨q, rfl, E, ce, L, hx, hce, hcv, hcl, hW₂, hsm, hL⟩
  · obtain ⟨⟨v, rfl⟩, hW₂, e2, q2, q3, q4, q5, q6⟩ := id hfe
    have e3 : s₂ = ({ (U.calling g mk a).setFrames s₂.frames with heap := s₂.heap, slotsUsed := s₂.slotsUsed } : State).setVm s₂.vm := by
      have : s₂ = ({ s₂ with vm := (U.calling g mk a).vm } : State).setVm s₂.vm := rfl
      rw [e2] at this
      exact this
    obtain ⟨c₂, i₂, len₂, hc₂, hd₂, hf₂⟩ := hend
    have hW' : U.WarmedH s₂.vm := hW₂
    have hcc : c₂ = c := by
      have h1 : s₂.code? g.method = U.code? g.method := by
        rw [State.code?_eq, State.code?_eq, hW'.alike.method?]
      exact Option.some.inj (hc₂.symm.trans (h1.trans h.code))
    subst hcc
    have hlen : len₂ = len := by rw [hdg] at hd₂; cases hd₂; rfl
    subst hlen
    have hs₂ : s₂ = (({ U with heap := s₂.heap, slotsUsed := s₂.slotsUsed } : State).setVm s₂.vm).setTop { g with pc := g.pc + len₂, stack := v.toList ++ g.stack } := by
      refine e3.trans ?_
      rw [hf₂, State.calling_eq h.top, State.setFrames_setFrames, State.setTop_of_frames _ hr', hr]
      rfl
    have hsame : U.sameButNew ({ U with heap := s₂.heap, slotsUsed := s₂.slotsUsed } : State) L mc ms := by
      refine ⟨?_, q2, q3, q4, q5, q6⟩
      obtain ⟨t, ht, -⟩ := State.frames_cons hr
      show ({ U with heap := s₂.heap, slotsUsed := s₂.slotsUsed } : State) = { U.setFrames U.frames with heap := s₂.heap, slotsUsed := s₂.slotsUsed }
      rw [State.setFrames_self ht]
    subst hg
    refine Or.inl ⟨v, ⟨(({ U with heap := s₂.heap, slotsUsed := s₂.slotsUsed } : State).setVm s₂.vm), Ls ++ L, c0 + mc, s0 + ms⟩,
      ⟨X.admits, X.cas, X.clock, X.frames, X.room, X.hears, X.method, X.code, (X.here.setHeapUsed s₂.heap s₂.slotsUsed).setVm hW'.alike, X.tail, State.WarmedH.trans X.warmed hW', X.limits, X.bytes, X.same.trans (hsame.setVm s.vm)⟩,
      ⟨g, mk, s₂, L, rfl, rfl, hqc, rfl, hL, rfl, rfl⟩, ?_⟩
    show Steps p.tables e below _ ((({ U with heap := s₂.heap, slotsUsed := s₂.slotsUsed } : State).setVm s₂.vm).setTop { g with pc := g.pc + len₂, stack := v.toList ++ g.stack })
    rw [← hs₂]
    exact hsteps
  · obtain ⟨e2, q2, q3, q4, q5, q6⟩ := id hsm
    have e3 : s₂ = ({ (U.calling g mk a).setFrames s₂.frames with heap := s₂.heap, slotsUsed := s₂.slotsUsed } : State).setVm s₂.vm := by
      have : s₂ = ({ s₂ with vm := (U.calling g mk a).vm } : State).setVm s₂.vm := rfl
      rw [e2] at this
      exact this
    have hf₂ : s₂.frames = .throwing q :: .java g :: U.frames.tail := hend
    have hW' : U.WarmedH s₂.vm := hW₂
    have hs₂ : s₂ = ((({ U with heap := s₂.heap, slotsUsed := s₂.slotsUsed } : State).setVm s₂.vm).setTop g).pushFrame (.throwing q) := by
      refine e3.trans ?_
      rw [hf₂, State.calling_eq h.top, State.setFrames_setFrames, State.pushFrame, State.frames_setTop _ hr', State.setTop_of_frames _ hr', State.setFrames_setFrames, hr]
      rfl
    have hsame : U.sameButNew ({ U with heap := s₂.heap, slotsUsed := s₂.slotsUsed } : State) L mc ms := by
      refine ⟨?_, q2, q3, q4, q5, q6⟩
      obtain ⟨t, ht, -⟩ := State.frames_cons hr
      show ({ U with heap := s₂.heap, slotsUsed := s₂.slotsUsed } : State) = { U.setFrames U.frames with heap := s₂.heap, slotsUsed := s₂.slotsUsed }
      rw [State.setFrames_self ht]
    subst hg
    refine Or.inr ⟨q, ⟨(({ U with heap := s₂.heap, slotsUsed := s₂.slotsUsed } : State).setVm s₂.vm), Ls ++ L, c0 + mc, s0 + ms⟩,
      ⟨X.admits, X.cas, X.clock, X.frames, X.room, X.hears, X.method, X.code, (X.here.setHeapUsed s₂.heap s₂.slotsUsed).setVm hW'.alike, X.tail, State.WarmedH.trans X.warmed hW', X.limits, X.bytes, X.same.trans (hsame.setVm s.vm)⟩,
      ⟨g, mk, s₂, L, E, ce, rfl, rfl, hx, hce, hcv, hcl, rfl, hL, rfl, rfl⟩, ?_⟩
    show Steps p.tables e below _ (((({ U with heap := s₂.heap, slotsUsed := s₂.slotsUsed } : State).setVm s₂.vm).setTop g).pushFrame (.throwing q))
    rw [← hs₂]
    exact hsteps
end
variable {p : Program} {l : Launch} {e : Env} {R : Room} {s : State} {m : MethodId} {args : Array Value} {below : List Frame} {meth : Method} {c : Code} {T : State} {H : Heap} {locs : List Loc} {cells slots : Nat}
theorem vx_callVX (X : Stand p l e R s m args below meth c T locs cells slots) (hexec : p.tables.exec = Jvm.exec) {own C : String} {index : Nat} {y : MethodName} {bytes : ByteArray} {maxL : Nat} {ret : Option FieldType} {hh : List (Nat × Nat × Nat × Nat)}
    (hown : s.vm.findClass own = some m.cls) (hlink : (Cond.methodLink own index y).before args s = true) (hinst : (Cond.instanceMethod y).before args s = true) (hsel : (Cond.selects C y y).before args s = true)
    (hcode : (Cond.codeWith y bytes maxL ret hh).before args s = true) (hy : y.cls ≠ "java/lang/invoke/MethodHandle" ∧ y.cls ≠ "java/lang/invoke/VarHandle")
    {W9 : Nat} {Pre : Pt → Array Value → Prop} {Post : Pt → Array Value → Option Value → Pt → Prop} {PostX : Pt → Array Value → Addr → Pt → Prop} (hK : vx_Back l R p e below s args y 3 W9 Pre Post PostX)
    {b : Addr} {cellB : Cell} (hcell : T.heap[b]? = some cellB) (hobj : cellB.vm.isStatics = false) (hcls : s.vm.findClass C = some cellB.cls)
    {g : JFrame} (hg : g.method = m) (hsize : g.locals.size = c.maxLocals) {argsL rest : List Value} (hlen : ∀ sig, parseMethodDescriptor y.desc = some sig → argsL.length = sig.parameters.length)
    (hstack : g.stack = argsL.reverse ++ .ref b :: rest) (hW : 2 * g.monitorRoom + (rest.map fun v => v.category).sum ≤ W9) (hdg : decode c.code g.pc = .ok (.invokevirtual index, 3))
    (hpre : ∀ vm₁, s.WarmedH vm₁ → Pre ⟨T.setVm vm₁, locs, cells, slots⟩ (Value.ref b :: argsL).toArray) :
    (∃ (v : Option Value) (vm₁ : Vm) (B : Pt), s.WarmedH vm₁ ∧ Stand p l e R s m args below meth c B.U B.locs B.cells B.slots ∧ Post ⟨T.setVm vm₁, locs, cells, slots⟩ (Value.ref b :: argsL).toArray v B ∧
      ∀ target, Steps p.tables e below (B.U.setTop { g with pc := g.pc + 3, stack := v.toList ++ rest }) target → Steps p.tables e below (T.setTop g) target) ∨
    (∃ (q : Addr) (vm₁ : Vm) (B : Pt), s.WarmedH vm₁ ∧ Stand p l e R s m args below meth c B.U B.locs B.cells B.slots ∧ PostX ⟨T.setVm vm₁, locs, cells, slots⟩ (Value.ref b :: argsL).toArray q B ∧
      Steps p.tables e below (T.setTop g) ((B.U.setTop { g with stack := rest }).pushFrame (.throwing q))) := by
  obtain ⟨mk, methM, hnamed, hmethM, hstM, habM⟩ := Cond.instanceMethod_spec hinst
  obtain ⟨m8, methM', cM, hn8, hmethM', -, -, -, -, -, -, hsigM⟩ := Cond.codeWith_spec hcode
  cases Option.some.inj (hn8.symm.trans hnamed)
  cases hmethM.symm.trans hmethM'
  obtain ⟨c2, r2, m2, q1, q2, q3, q4, kP, hkP, hkPi⟩ := Cond.selects_spec hsel
  cases hcls.symm.trans q1
  cases (State.methodFound?_of_named hnamed hy).symm.trans q2
  cases hnamed.symm.trans q3
  have hselP : selectMethod e.platform s.vm cellB.cls mk = .method mk := by rw [Launch.admits_selectMethod X.admits]; exact q4
  obtain ⟨vm₁, X₁, hstep₁⟩ := X.invokevirtual hexec hown hlink hnamed hmethM hstM hkP hkPi hy (a := b) (cell := cellB) hcell
    (fun z h => by rw [h] at hobj; cases hobj) hselP hmethM habM hkP hkPi (g := g) hg (argsL := argsL) (rest := rest) (hlen _ hsigM) hstack hdg
  rcases hK m meth c ⟨T.setVm vm₁, locs, cells, slots⟩ { g with stack := rest } (.invokevirtual index) mk (Value.ref b :: argsL).toArray X₁ hg hsize hdg hW (X₁.named hnamed) (hpre vm₁ X₁.warmed) with ⟨v, B, X', hpost, hsteps⟩ | ⟨q, B, X', hpost, hsteps⟩
  · exact Or.inl ⟨v, vm₁, B, X₁.warmed, X', hpost, fun target h => hstep₁ _ fun acts => by rw [doInvoke_state]; exact hsteps.trans h⟩
  · exact Or.inr ⟨q, vm₁, B, X₁.warmed, X', hpost, hstep₁ _ fun acts => by rw [doInvoke_state]; exact hsteps⟩
theorem vx_callSX (X : Stand p l e R s m args below meth c T locs cells slots) (hexec : p.tables.exec = Jvm.exec) {own : String} {index : Nat} {y : MethodName} {bytes : ByteArray} {maxL : Nat} {ret : Option FieldType} {hh : List (Nat × Nat × Nat × Nat)}
    (hown : s.vm.findClass own = some m.cls) (hlink : (Cond.methodLink own index y).before args s = true) (hstat : (Cond.static y).before args s = true) (hinit : (Cond.initialized y.cls).before args s = true)
    (hcode : (Cond.codeWith y bytes maxL ret hh).before args s = true) (hy : y.cls ≠ "java/lang/invoke/MethodHandle" ∧ y.cls ≠ "java/lang/invoke/VarHandle")
    {W9 : Nat} {Pre : Pt → Array Value → Prop} {Post : Pt → Array Value → Option Value → Pt → Prop} {PostX : Pt → Array Value → Addr → Pt → Prop} (hK : vx_Back l R p e below s args y 3 W9 Pre Post PostX)
    {g : JFrame} (hg : g.method = m) (hsize : g.locals.size = c.maxLocals) {argsL rest : List Value} (hlen : ∀ sig, parseMethodDescriptor y.desc = some sig → argsL.length = sig.parameters.length)
    (hstack : g.stack = argsL.reverse ++ rest) (hW : 2 * g.monitorRoom + (rest.map fun v => v.category).sum ≤ W9) (hdg : decode c.code g.pc = .ok (.invokestatic index, 3))
    (hpre : ∀ vm₁, s.WarmedH vm₁ → Pre ⟨T.setVm vm₁, locs, cells, slots⟩ argsL.toArray) :
    (∃ (v : Option Value) (vm₁ : Vm) (B : Pt), s.WarmedH vm₁ ∧ Stand p l e R s m args below meth c B.U B.locs B.cells B.slots ∧ Post ⟨T.setVm vm₁, locs, cells, slots⟩ argsL.toArray v B ∧
      ∀ target, Steps p.tables e below (B.U.setTop { g with pc := g.pc + 3, stack := v.toList ++ rest }) target → Steps p.tables e below (T.setTop g) target) ∨
    (∃ (q : Addr) (vm₁ : Vm) (B : Pt), s.WarmedH vm₁ ∧ Stand p l e R s m args below meth c B.U B.locs B.cells B.slots ∧ PostX ⟨T.setVm vm₁, locs, cells, slots⟩ argsL.toArray q B ∧
      Steps p.tables e below (T.setTop g) ((B.U.setTop { g with stack := rest }).pushFrame (.throwing q))) := by
  obtain ⟨mk, methM, cM, hnamed, hmethM, -, -, -, -, -, -, hsigM⟩ := Cond.codeWith_spec hcode
  have hstatic : methM.isStatic = true := Cond.static_spec hnamed hmethM hstat
  obtain ⟨kP, hkP, -⟩ := className_of_methodNamed hnamed
  have hinitP : kP.init = .initialized := Cond.initialized_spec (findClass_of_methodNamed hnamed) hkP hinit
  obtain ⟨vm₁, X₁, hstep₁⟩ := X.invokestatic hexec hown hlink hnamed hmethM hstatic hkP hinitP hy (g := g) hg (argsL := argsL) (rest := rest) (hlen _ hsigM) hstack hdg
  rcases hK m meth c ⟨T.setVm vm₁, locs, cells, slots⟩ { g with stack := rest } (.invokestatic index) mk argsL.toArray X₁ hg hsize hdg hW (X₁.named hnamed) (hpre vm₁ X₁.warmed) with ⟨v, B, X', hpost, hsteps⟩ | ⟨q, B, X', hpost, hsteps⟩
  · exact Or.inl ⟨v, vm₁, B, X₁.warmed, X', hpost, fun target h => hstep₁ _ fun acts => by rw [doInvoke_state]; exact hsteps.trans h⟩
  · exact Or.inr ⟨q, vm₁, B, X₁.warmed, X', hpost, hstep₁ _ fun acts => by rw [doInvoke_state]; exact hsteps⟩
theorem vx_callVW (X : Stand p l e R s m args below meth c T locs cells slots) (hexec : p.tables.exec = Jvm.exec) {own C : String} {index : Nat} {y : MethodName} {bytes : ByteArray} {maxL : Nat} {ret : Option FieldType} {hh : List (Nat × Nat × Nat × Nat)}
    (hown : s.vm.findClass own = some m.cls) (hlink : (Cond.methodLink own index y).before args s = true) (hinst : (Cond.instanceMethod y).before args s = true) (hsel : (Cond.selects C y y).before args s = true)
    (hcode : (Cond.codeWith y bytes maxL ret hh).before args s = true) (hy : y.cls ≠ "java/lang/invoke/MethodHandle" ∧ y.cls ≠ "java/lang/invoke/VarHandle")
    {W9 : Nat} {Pre : Pt → Array Value → Prop} {Post : Pt → Array Value → Option Value → Pt → Prop} (hK : Back l R p e below s args y 3 W9 Pre Post)
    {b : Addr} {cellB : Cell} (hcell : T.heap[b]? = some cellB) (hobj : cellB.vm.isStatics = false) (hcls : s.vm.findClass C = some cellB.cls)
    {g : JFrame} (hg : g.method = m) (hsize : g.locals.size = c.maxLocals) {argsL rest : List Value} (hlen : ∀ sig, parseMethodDescriptor y.desc = some sig → argsL.length = sig.parameters.length)
    (hstack : g.stack = argsL.reverse ++ .ref b :: rest) (hW : 2 * g.monitorRoom + (rest.map fun v => v.category).sum ≤ W9) (hdg : decode c.code g.pc = .ok (.invokevirtual index, 3))
    (hpre : ∀ vm₁, s.WarmedH vm₁ → Pre ⟨T.setVm vm₁, locs, cells, slots⟩ (Value.ref b :: argsL).toArray) :
    ∃ (v : Option Value) (vm₁ : Vm) (B : Pt), s.WarmedH vm₁ ∧ Stand p l e R s m args below meth c B.U B.locs B.cells B.slots ∧ Post ⟨T.setVm vm₁, locs, cells, slots⟩ (Value.ref b :: argsL).toArray v B ∧
      ∀ target, Steps p.tables e below (B.U.setTop { g with pc := g.pc + 3, stack := v.toList ++ rest }) target → Steps p.tables e below (T.setTop g) target := by
  obtain ⟨mk, methM, hnamed, hmethM, hstM, habM⟩ := Cond.instanceMethod_spec hinst
  obtain ⟨m8, methM', cM, hn8, hmethM', -, -, -, -, -, -, hsigM⟩ := Cond.codeWith_spec hcode
  cases Option.some.inj (hn8.symm.trans hnamed)
  cases hmethM.symm.trans hmethM'
  obtain ⟨c2, r2, m2, q1, q2, q3, q4, kP, hkP, hkPi⟩ := Cond.selects_spec hsel
  cases hcls.symm.trans q1
  cases (State.methodFound?_of_named hnamed hy).symm.trans q2
  cases hnamed.symm.trans q3
  have hselP : selectMethod e.platform s.vm cellB.cls mk = .method mk := by rw [Launch.admits_selectMethod X.admits]; exact q4
  obtain ⟨vm₁, X₁, hstep₁⟩ := X.invokevirtual hexec hown hlink hnamed hmethM hstM hkP hkPi hy (a := b) (cell := cellB) hcell
    (fun z h => by rw [h] at hobj; cases hobj) hselP hmethM habM hkP hkPi (g := g) hg (argsL := argsL) (rest := rest) (hlen _ hsigM) hstack hdg
  obtain ⟨v, B, X', hpost, hsteps⟩ := hK m meth c ⟨T.setVm vm₁, locs, cells, slots⟩ { g with stack := rest } (.invokevirtual index) mk (Value.ref b :: argsL).toArray X₁ hg hsize hdg hW (X₁.named hnamed) (hpre vm₁ X₁.warmed)
  exact ⟨v, vm₁, B, X₁.warmed, X', hpost, fun target h => hstep₁ _ fun acts => by rw [doInvoke_state]; exact hsteps.trans h⟩
abbrev vx_CVW (R : Room) (s : State) (args : Array Value) (own C : String) (index : Nat) (y : MethodName) (bytes : ByteArray) (maxL : Nat) (ret : Option FieldType) (hh : List (Nat × Nat × Nat × Nat)) (ws : List Cond) (rm : Room) (mc ms n : Nat) : Prop :=
  (rm.cells = mc ∧ rm.slots = ms ∧ rm.frames + 1 ≤ R.frames ∧ 8 + (maxL + 11) + rm.locals ≤ R.locals ∧ (∀ w ∈ ws, ∀ (a' : Array Value) (U : State), s.WarmedH U.vm → w.before a' U = true) ∧ Cond.codeWith y bytes maxL ret hh ∈ ws) ∧
  (Cond.codeWith y bytes maxL ret hh).before args s = true ∧ (Cond.initialized y.cls).before args s = true ∧ (y.cls ≠ "java/lang/invoke/MethodHandle" ∧ y.cls ≠ "java/lang/invoke/VarHandle") ∧
  (∀ sig, parseMethodDescriptor y.desc = some sig → n = sig.parameters.length) ∧ (Cond.methodLink own index y).before args s = true ∧ (Cond.instanceMethod y).before args s = true ∧ (Cond.selects C y y).before args s = true
theorem vx_cwVW {own C : String} {index maxL mc ms : Nat} {y : MethodName} {bytes : ByteArray} {ret : Option FieldType} {hh : List (Nat × Nat × Nat × Nat)} {Ts ws ws' : List Cond} {rm : Room} (n : Nat) (ht : ∀ w ∈ Ts, w.before args s = true) (hT : GoodIn Ts (wsV own index C y ws)) (hw : ws = Cond.codeWith y bytes maxL ret hh :: ws') (hrc : rm.cells = mc) (hrs : rm.slots = ms)
    (hd : y.cls = C ∧ y.cls ≠ "java/lang/invoke/MethodHandle" ∧ y.cls ≠ "java/lang/invoke/VarHandle" ∧ (parseMethodDescriptor y.desc).map (fun d => d.parameters.length) = some n) (hR : rm.frames + 1 ≤ R.frames ∧ 8 + (maxL + 11) + rm.locals ≤ R.locals) :
    vx_CVW R s args own C index y bytes maxL ret hh ws rm mc ms n := by
  obtain ⟨hC, hd⟩ := hd
  subst hC
  have ok : ∀ w ∈ wsV own index y.cls y ws, w.before args s = true := fun w h => ht w (hT w h).1
  have hG : GoodIn Ts ws := fun w h => hT w (by unfold wsV; exact List.mem_append_right _ h)
  have hc : Cond.codeWith y bytes maxL ret hh ∈ ws := by rw [hw]; exact List.mem_cons_self
  refine ⟨⟨hrc, hrs, hR.1, hR.2, pay_in ht hG, hc⟩, ht _ (hG _ hc).1, ok _ (by simp [wsV]), ⟨hd.1, hd.2.1⟩, fun sig h => ?_, ok _ (by simp [wsV]), ok _ (by simp [wsV]), ok _ (by simp [wsV])⟩
  have h2 := hd.2.2
  rw [h] at h2
  exact (Option.some.inj h2).symm
theorem vx_runVW {y : MethodName} {bytes cc : ByteArray} {maxL nL mc ms n index : Nat} {ret : Option FieldType} {hh : List (Nat × Nat × Nat × Nat)} {ws : List Cond} {rm : Room} {Pc : Array Value → State → Prop} {Qc : Array Value → State → Outcome → State → Prop} {free : Addr → Prop} {Ts : List Cond} {own C : String} {b : Addr} {As rest : List Value} {g : JFrame}
    (S : CallFix p m c cc nL s args Ts own) (hM : Met l y ws rm Pc Qc mc ms free) (cw : vx_CVW R s args own C index y bytes maxL ret hh ws rm mc ms n) (hp : PreV s H C b Pc As)
    (hg : g.method = m) (hn : As.length = n) (hsize : g.locals.size = nL) (hstack : g.stack = As.reverse ++ .ref b :: rest) (hW : 2 * g.monitorRoom + (rest.map fun v => v.category).sum ≤ 8) (hdg : decode cc g.pc = .ok (.invokevirtual index, 3)) (hf : cells + mc ≤ R.cells ∧ slots + ms ≤ R.slots) :
    va_Run p l e R s m args below meth c H locs cells slots mc ms g rest (Qc (Value.ref b :: As).toArray) free := by
  obtain ⟨⟨hrc, hrs, hfr, hlo, hws, hcw⟩, hcode, hini, hy, hlen, hl, hin, hse⟩ := cw
  have hK : Back l R p e below s args y 3 8 (PreOf R mc ms Pc) (PostOf Qc mc ms free) := va_backW (hh := hh) (bytes := bytes) (maxL := maxL) (ret := ret) hM hp.1 hrc hrs hfr hlo hws hcw (fun a' U hW => word_at hW (Or.inl (by first | rfl | simp [Cond.onTables, Cond.keeps, Cond.steady])) hini)
  obtain ⟨hx, hb, hml, ho, -⟩ := S
  obtain ⟨-, ⟨cellB, hcB, hoB, hclB⟩, hPc⟩ := hp
  intro T hT X
  obtain ⟨v, vm₁, ⟨U', l2, c2, s2⟩, hW₁, X', ⟨g', mk, t, L, e1, e2, hq, h1, hL, h2, h3⟩, st⟩ := vx_callVW X hx (C := C) (hh := hh) (bytes := bytes) (maxL := maxL) (ret := ret) ho hl hin hse hcode hy hK (by rw [hT]; exact hcB) hoB hclB hg (hsize.trans hml.symm) (argsL := As) (rest := rest) (fun sig h => hn.trans (hlen sig h)) hstack hW (by rw [hb]; exact hdg)
    (fun vm₁ hW₁ => ⟨hf.1, hf.2, hPc (T.setVm vm₁) hT hW₁⟩)
  dsimp only [Pt.U, Pt.locs, Pt.cells, Pt.slots] at X' e1 e2 h1 h2 h3 st
  subst h1; subst h2; subst h3
  exact ⟨v, (T.setVm vm₁).calling g' mk (Value.ref b :: As).toArray, t, U', L, hT, X', hL, e1, e2, hq, st⟩
section
variable {y : MethodName} {bytes cc : ByteArray} {maxL nL mc ms n index : Nat} {ret : Option FieldType} {ws : List Cond} {rm : Room} {Pc : Array Value → State → Prop} {Qc : Array Value → State → Outcome → State → Prop} {XC : String → State → State → Prop} {free : Addr → Prop} {Ts : List Cond} {own C : String} {b : Addr} {As rest : List Value} {g : JFrame}
theorem vx_runVX {hh : List (Nat × Nat × Nat × Nat)} (S : CallFix p m c cc nL s args Ts own) (hM : vx_Met l y ws rm Pc Qc XC mc ms free) (cw : vx_CVW R s args own C index y bytes maxL ret hh ws rm mc ms n) (hp : PreV s H C b Pc As)
    (hg : g.method = m) (hn : As.length = n) (hsize : g.locals.size = nL) (hstack : g.stack = As.reverse ++ .ref b :: rest) (hW : 2 * g.monitorRoom + (rest.map fun v => v.category).sum ≤ 8) (hdg : decode cc g.pc = .ok (.invokevirtual index, 3)) (hf : cells + mc ≤ R.cells ∧ slots + ms ≤ R.slots) :
    vx_Run p l e R s m args below meth c H locs cells slots mc ms g rest (Qc (Value.ref b :: As).toArray) XC free := by
  obtain ⟨⟨hrc, hrs, hfr, hlo, hws, hcw⟩, hcode, hini, hy, hlen, hl, hin, hse⟩ := cw
  have hK : vx_Back l R p e below s args y 3 8 (PreOf R mc ms Pc) (PostOf Qc mc ms free) (vx_Post XC mc ms free) := vx_backW (hh := hh) (bytes := bytes) (maxL := maxL) (ret := ret) hM hp.1 hrc hrs hfr hlo hws hcw (fun a' U hW => word_at hW (Or.inl (by first | rfl | simp [Cond.onTables, Cond.keeps, Cond.steady])) hini)
  obtain ⟨hx, hb, hml, ho, -⟩ := S
  obtain ⟨-, ⟨cellB, hcB, hoB, hclB⟩, hPc⟩ := hp
  intro T hT X
  rcases vx_callVX X hx (C := C) (hh := hh) (bytes := bytes) (maxL := maxL) (ret := ret) ho hl hin hse hcode hy hK (by rw [hT]; exact hcB) hoB hclB hg (hsize.trans hml.symm) (argsL := As) (rest := rest) (fun sig h => hn.trans (hlen sig h)) hstack hW (by rw [hb]; exact hdg)
    (fun vm₁ hW₁ => ⟨hf.1, hf.2, hPc (T.setVm vm₁) hT hW₁⟩) with ⟨v, vm₁, ⟨U', l2, c2, s2⟩, hW₁, X', ⟨g', mk, t, L, e1, e2, hq, h1, hL, h2, h3⟩, st⟩ | ⟨q, vm₁, ⟨U', l2, c2, s2⟩, hW₁, X', ⟨g', mk, t, L, E, ce, e1, e2, hq, hce, hcv, hcl, h1, hL, h2, h3⟩, st⟩
  · dsimp only [Pt.U, Pt.locs, Pt.cells, Pt.slots] at X' e1 e2 h1 h2 h3 st
    subst h1; subst h2; subst h3
    exact Or.inl ⟨v, (T.setVm vm₁).calling g' mk (Value.ref b :: As).toArray, t, U', L, hT, X', hL, e1, e2, hq, st⟩
  · dsimp only [Pt.U, Pt.locs, Pt.cells, Pt.slots] at X' e1 e2 h1 h2 h3 st hcl
    subst h1; subst h2; subst h3
    exact Or.inr ⟨q, (T.setVm vm₁).calling g' mk (Value.ref b :: As).toArray, t, U', L, E, ce, hT, X', hL, e1, e2, hq, hce, hcv, vx_cls hW₁ hcl, st⟩
theorem vx_runSX {hh : List (Nat × Nat × Nat × Nat)} (S : CallFix p m c cc nL s args Ts own) (hM : vx_Met l y ws rm Pc Qc XC mc ms free) (cw : vx_CSW R s args own index y bytes maxL ret hh ws rm mc ms n) (hp : PreS s H Pc As)
    (hg : g.method = m) (hn : As.length = n) (hsize : g.locals.size = nL) (hstack : g.stack = As.reverse ++ rest) (hW : 2 * g.monitorRoom + (rest.map fun v => v.category).sum ≤ 8) (hdg : decode cc g.pc = .ok (.invokestatic index, 3)) (hf : cells + mc ≤ R.cells ∧ slots + ms ≤ R.slots) :
    vx_Run p l e R s m args below meth c H locs cells slots mc ms g rest (Qc As.toArray) XC free := by
  obtain ⟨⟨hrc, hrs, hfr, hlo, hws, hcw⟩, hcode, hini, hy, hlen, hl, hstt⟩ := cw
  have hK : vx_Back l R p e below s args y 3 8 (PreOf R mc ms Pc) (PostOf Qc mc ms free) (vx_Post XC mc ms free) := vx_backW (hh := hh) (bytes := bytes) (maxL := maxL) (ret := ret) hM hp.1 hrc hrs hfr hlo hws hcw (fun a' U hW => word_at hW (Or.inl (by first | rfl | simp [Cond.onTables, Cond.keeps, Cond.steady])) hini)
  obtain ⟨hx, hb, hml, ho, -⟩ := S
  intro T hT X
  rcases vx_callSX X hx (hh := hh) (bytes := bytes) (maxL := maxL) (ret := ret) ho hl hstt hini hcode hy hK hg (hsize.trans hml.symm) (argsL := As) (rest := rest) (fun sig h => hn.trans (hlen sig h)) hstack hW (by rw [hb]; exact hdg)
    (fun vm₁ hW₁ => ⟨hf.1, hf.2, hp.2 (T.setVm vm₁) hT hW₁⟩) with ⟨v, vm₁, ⟨U', l2, c2, s2⟩, hW₁, X', ⟨g', mk, t, L, e1, e2, hq, h1, hL, h2, h3⟩, st⟩ | ⟨q, vm₁, ⟨U', l2, c2, s2⟩, hW₁, X', ⟨g', mk, t, L, E, ce, e1, e2, hq, hce, hcv, hcl, h1, hL, h2, h3⟩, st⟩
  · dsimp only [Pt.U, Pt.locs, Pt.cells, Pt.slots] at X' e1 e2 h1 h2 h3 st
    subst h1; subst h2; subst h3
    exact Or.inl ⟨v, (T.setVm vm₁).calling g' mk As.toArray, t, U', L, hT, X', hL, e1, e2, hq, st⟩
  · dsimp only [Pt.U, Pt.locs, Pt.cells, Pt.slots] at X' e1 e2 h1 h2 h3 st hcl
    subst h1; subst h2; subst h3
    exact Or.inr ⟨q, (T.setVm vm₁).calling g' mk As.toArray, t, U', L, E, ce, hT, X', hL, e1, e2, hq, hce, hcv, vx_cls hW₁ hcl, st⟩
end
end VXH
theorem vx_ofWH {l : Launch} {y : MethodName} {ws ws' : List Cond} {rm : Room} {Pc : Array Value → State → Prop} {Qc : Array Value → State → Outcome → State → Prop} {XC : String → State → State → Prop} {mc ms : Nat} {free : Addr → Prop} {cc : ByteArray} {maxL : Nat} {ret : Option FieldType} {hh : List (Nat × Nat × Nat × Nat)}
    (hy : plainName y.cls = true) (hw : ws = Cond.codeWith y cc maxL ret hh :: ws')
    (body : ∀ p e s m args below meth c s₁, BodyLoose p l y (headSpec ws rm) cc maxL ret e s m args below meth c s₁ → c.maxLocals = maxL → Pc args s →
      W p l e (headSpec ws rm).room s m args below meth c s.heap [] 0 0 (vx_MQ below Qc XC args s mc ms free) (entryFrame m args maxL)) : vx_Met l y ws rm Pc Qc XC mc ms free := by
  refine MetFree.of_bodyS (code := cc) (maxLocals := maxL) (ret := ret) hy ?_ ?_
  · intro args s m h hn
    obtain ⟨m9, meth, c, hn9, h1, h2, h3, h4, -, h5, h6, -⟩ := Cond.codeWith_spec (atoms_spec (ws := ws) h _ (by rw [hw]; exact List.mem_cons_self))
    cases hn.symm.trans hn9
    exact ⟨meth, c, h1, h2, h3, h4, h5, h6⟩
  · intro p e s m args below meth c s₁ B hml hP _
    have hh0 : s₁.heap = s.heap := by rw [B.state]; rfl
    obtain ⟨t, a1, o, b1, b2, b3⟩ := body p e s m args below meth c s₁ B hml hP s₁ hh0 (Stand.of_body B)
    exact ⟨t, o, a1, b1, b2, b3⟩
/-! ===== END ===== -/
end
section
def RX0 : String := "NestedEnvelopes$OrderText"
def TX0 : u_T := fun k => match k with
  | 0 => ("NestedEnvelopes$OrderText", "codes", "[I", true)
  | _ => ("NestedEnvelopes$OrderText", "length", "I", false)
def tyX0 : Nat → FieldType := fun k => match k with
  | 0 => .array .int
  | _ => .int
abbrev wsX00 : List Cond := u_ws RX0 TX0 2
theorem nmX0 : ∀ a, a < 2 → ∀ b, b < 2 → a ≠ b → (TX0 a).2.1 ≠ (TX0 b).2.1 := by decide +kernel
theorem tyX0_ok : ∀ k, k < 2 → parseFieldDescriptor (TX0 k).2.2.1 = some (tyX0 k) := by decide +kernel
abbrev cX0_init : ByteArray := prog_2_method_1_code
def yX0_init : MethodName := ⟨RX0, "<init>", "()V"⟩
abbrev cX0_add : ByteArray := prog_2_method_2_code
def yX0_add : MethodName := ⟨RX0, "add", "(I)V"⟩
abbrev cX0_empty : ByteArray := prog_2_method_3_code
def yX0_empty : MethodName := ⟨RX0, "empty", "()I"⟩
abbrev cX0_codeAt : ByteArray := prog_2_method_4_code
def yX0_codeAt : MethodName := ⟨RX0, "codeAt", "(I)I"⟩
abbrev cX0_digitAt : ByteArray := prog_2_method_5_code
def yX0_digitAt : MethodName := ⟨RX0, "digitAt", "(I)I"⟩
abbrev cX0_bodyOf : ByteArray := prog_2_method_6_code
def yX0_bodyOf : MethodName := ⟨RX0, "bodyOf", "(II)I"⟩
abbrev cX0_errorIndex : ByteArray := prog_2_method_7_code
def yX0_errorIndex : MethodName := ⟨RX0, "errorIndex", "()I"⟩
abbrev cX0_isComplete : ByteArray := prog_2_method_8_code
def yX0_isComplete : MethodName := ⟨RX0, "isComplete", "()Z"⟩
abbrev cX0_lastStart : ByteArray := prog_2_method_9_code
def yX0_lastStart : MethodName := ⟨RX0, "lastStart", "()I"⟩
abbrev cX0_endsOrder : ByteArray := prog_2_method_10_code
def yX0_endsOrder : MethodName := ⟨RX0, "endsOrder", "(II)Z"⟩
abbrev cX0_fits : ByteArray := prog_2_method_11_code
def yX0_fits : MethodName := ⟨RX0, "fits", "(II)Z"⟩
abbrev cX0_isOrderSign : ByteArray := prog_2_method_12_code
def yX0_isOrderSign : MethodName := ⟨RX0, "isOrderSign", "(I)Z"⟩
abbrev cX0_fitsLay : ByteArray := prog_2_method_13_code
def yX0_fitsLay : MethodName := ⟨RX0, "fitsLay", "(II)Z"⟩
abbrev cX0_fitsBody : ByteArray := prog_2_method_14_code
def yX0_fitsBody : MethodName := ⟨RX0, "fitsBody", "(II)Z"⟩
def RX1 : String := "NestedEnvelopes$SavedStates"
def TX1 : u_T := fun k => match k with
  | 0 => ("NestedEnvelopes$SavedStates", "slots", "[LNestedEnvelopes$State;", true)
  | 1 => ("NestedEnvelopes$SavedStates", "next", "I", false)
  | _ => ("NestedEnvelopes$SavedStates", "size", "I", false)
def tyX1 : Nat → FieldType := fun k => match k with
  | 0 => .array (.object "NestedEnvelopes$State")
  | 1 => .int
  | _ => .int
abbrev wsX10 : List Cond := u_ws RX1 TX1 3
theorem nmX1 : ∀ a, a < 3 → ∀ b, b < 3 → a ≠ b → (TX1 a).2.1 ≠ (TX1 b).2.1 := by decide +kernel
theorem tyX1_ok : ∀ k, k < 3 → parseFieldDescriptor (TX1 k).2.2.1 = some (tyX1 k) := by decide +kernel
abbrev cX1_init : ByteArray := prog_3_method_1_code
def yX1_init : MethodName := ⟨RX1, "<init>", "()V"⟩
abbrev cX1_keep : ByteArray := prog_3_method_2_code
def yX1_keep : MethodName := ⟨RX1, "keep", "(LNestedEnvelopes$State;)V"⟩
abbrev cX1_giveBack : ByteArray := prog_3_method_3_code
def yX1_giveBack : MethodName := ⟨RX1, "giveBack", "(LNestedEnvelopes$State;)V"⟩
abbrev cX1_slotAt : ByteArray := prog_3_method_4_code
def yX1_slotAt : MethodName := ⟨RX1, "slotAt", "(I)LNestedEnvelopes$State;"⟩
def RX2 : String := "NestedEnvelopes$State"
def TX2 : u_T := fun k => match k with
  | 0 => ("NestedEnvelopes$State", "openMask", "I", false)
  | 1 => ("NestedEnvelopes$State", "keys", "[I", true)
  | 2 => ("NestedEnvelopes$State", "roadCount", "I", false)
  | 3 => ("NestedEnvelopes$State", "roadInns", "[I", true)
  | 4 => ("NestedEnvelopes$State", "roadKeys", "[I", true)
  | 5 => ("NestedEnvelopes$State", "roadHalls", "[I", true)
  | 6 => ("NestedEnvelopes$State", "envelopeCount", "I", false)
  | 7 => ("NestedEnvelopes$State", "envelopeNumbers", "[I", true)
  | 8 => ("NestedEnvelopes$State", "letters", "[I", true)
  | 9 => ("NestedEnvelopes$State", "answerRoads", "[I", true)
  | 10 => ("NestedEnvelopes$State", "answerGot", "I", false)
  | _ => ("NestedEnvelopes$State", "counts", "[I", true)
def tyX2 : Nat → FieldType := fun k => match k with
  | 0 => .int
  | 1 => .array .int
  | 2 => .int
  | 3 => .array .int
  | 4 => .array .int
  | 5 => .array .int
  | 6 => .int
  | 7 => .array .int
  | 8 => .array .int
  | 9 => .array .int
  | 10 => .int
  | _ => .array .int
abbrev wsX20 : List Cond := u_ws RX2 TX2 12
theorem nmX2 : ∀ a, a < 12 → ∀ b, b < 12 → a ≠ b → (TX2 a).2.1 ≠ (TX2 b).2.1 := by decide +kernel
theorem tyX2_ok : ∀ k, k < 12 → parseFieldDescriptor (TX2 k).2.2.1 = some (tyX2 k) := by decide +kernel
abbrev cX2_init : ByteArray := prog_4_method_1_code
def yX2_init : MethodName := ⟨RX2, "<init>", "()V"⟩
abbrev cX2_become : ByteArray := prog_4_method_2_code
def yX2_become : MethodName := ⟨RX2, "become", "(LNestedEnvelopes$State;)V"⟩
abbrev cX2_hasOpen : ByteArray := prog_4_method_3_code
def yX2_hasOpen : MethodName := ⟨RX2, "hasOpen", "(I)Z"⟩
abbrev cX2_turn : ByteArray := prog_4_method_4_code
def yX2_turn : MethodName := ⟨RX2, "turn", "(IZ)V"⟩
abbrev cX2_isInMask : ByteArray := prog_4_method_5_code
def yX2_isInMask : MethodName := ⟨RX2, "isInMask", "(II)Z"⟩
abbrev cX2_addRoad : ByteArray := prog_4_method_6_code
def yX2_addRoad : MethodName := ⟨RX2, "addRoad", "(IIII)I"⟩
abbrev cX2_putInn : ByteArray := prog_4_method_7_code
def yX2_putInn : MethodName := ⟨RX2, "putInn", "(III)V"⟩
abbrev cX2_removeLastRoad : ByteArray := prog_4_method_8_code
def yX2_removeLastRoad : MethodName := ⟨RX2, "removeLastRoad", "()V"⟩
abbrev cX2_isUsed : ByteArray := prog_4_method_9_code
def yX2_isUsed : MethodName := ⟨RX2, "isUsed", "(I)Z"⟩
abbrev cX2_innAt : ByteArray := prog_4_method_10_code
def yX2_innAt : MethodName := ⟨RX2, "innAt", "(II)I"⟩
abbrev cX2_keyAt : ByteArray := prog_4_method_11_code
def yX2_keyAt : MethodName := ⟨RX2, "keyAt", "(II)I"⟩
abbrev cX2_placeOn : ByteArray := prog_4_method_12_code
def yX2_placeOn : MethodName := ⟨RX2, "placeOn", "(II)I"⟩
abbrev cX2_allOpenOn : ByteArray := prog_4_method_13_code
def yX2_allOpenOn : MethodName := ⟨RX2, "allOpenOn", "(I)Z"⟩
abbrev cX2_seenBeside : ByteArray := prog_4_method_14_code
def yX2_seenBeside : MethodName := ⟨RX2, "seenBeside", "(III)I"⟩
abbrev cX2_knownMask : ByteArray := prog_4_method_15_code
def yX2_knownMask : MethodName := ⟨RX2, "knownMask", "(I)I"⟩
abbrev cX2_innBit : ByteArray := prog_4_method_16_code
def yX2_innBit : MethodName := ⟨RX2, "innBit", "(I)I"⟩
abbrev cX2_roadsThrough : ByteArray := prog_4_method_17_code
def yX2_roadsThrough : MethodName := ⟨RX2, "roadsThrough", "(I)I"⟩
abbrev cX2_leastUsedInn : ByteArray := prog_4_method_18_code
def yX2_leastUsedInn : MethodName := ⟨RX2, "leastUsedInn", "(I)I"⟩
abbrev cX2_ofEnvelope : ByteArray := prog_4_method_19_code
def yX2_ofEnvelope : MethodName := ⟨RX2, "ofEnvelope", "(II)I"⟩
abbrev cX2_putNumber : ByteArray := prog_4_method_20_code
def yX2_putNumber : MethodName := ⟨RX2, "putNumber", "(III)V"⟩
abbrev cX2_addLetter : ByteArray := prog_4_method_21_code
def yX2_addLetter : MethodName := ⟨RX2, "addLetter", "(II)I"⟩
abbrev cX2_addAnswer : ByteArray := prog_4_method_22_code
def yX2_addAnswer : MethodName := ⟨RX2, "addAnswer", "(II)I"⟩
abbrev cX2_addEnvelope : ByteArray := prog_4_method_23_code
def yX2_addEnvelope : MethodName := ⟨RX2, "addEnvelope", "(IIII)I"⟩
abbrev cX2_countUp : ByteArray := prog_4_method_24_code
def yX2_countUp : MethodName := ⟨RX2, "countUp", "(I)V"⟩
abbrev cX2_letTicksPass : ByteArray := prog_4_method_25_code
def yX2_letTicksPass : MethodName := ⟨RX2, "letTicksPass", "(I)I"⟩
abbrev cX2_moveOn : ByteArray := prog_4_method_26_code
def yX2_moveOn : MethodName := ⟨RX2, "moveOn", "(I)Z"⟩
abbrev cX2_reachInn : ByteArray := prog_4_method_27_code
def yX2_reachInn : MethodName := ⟨RX2, "reachInn", "(II)V"⟩
abbrev cX2_reachHall : ByteArray := prog_4_method_28_code
def yX2_reachHall : MethodName := ⟨RX2, "reachHall", "(I)V"⟩
abbrev cX2_reachTraveller : ByteArray := prog_4_method_29_code
def yX2_reachTraveller : MethodName := ⟨RX2, "reachTraveller", "(I)V"⟩
abbrev cX2_takeOutGone : ByteArray := prog_4_method_30_code
def yX2_takeOutGone : MethodName := ⟨RX2, "takeOutGone", "()V"⟩
abbrev cX2_lostWithout : ByteArray := prog_4_method_31_code
def yX2_lostWithout : MethodName := ⟨RX2, "lostWithout", "(I)I"⟩
abbrev cX2_ticksLeft : ByteArray := prog_4_method_32_code
def yX2_ticksLeft : MethodName := ⟨RX2, "ticksLeft", "(II)I"⟩
def RX3 : String := "NestedEnvelopes"
def TX3 : u_T := fun k => match k with
  | 0 => ("NestedEnvelopes", "now", "LNestedEnvelopes$State;", true)
  | 1 => ("NestedEnvelopes", "saved", "LNestedEnvelopes$SavedStates;", true)
  | _ => ("NestedEnvelopes", "text", "LNestedEnvelopes$OrderText;", true)
def tyX3 : Nat → FieldType := fun k => match k with
  | 0 => .object "NestedEnvelopes$State"
  | 1 => .object "NestedEnvelopes$SavedStates"
  | _ => .object "NestedEnvelopes$OrderText"
abbrev wsX30 : List Cond := u_ws RX3 TX3 3
theorem nmX3 : ∀ a, a < 3 → ∀ b, b < 3 → a ≠ b → (TX3 a).2.1 ≠ (TX3 b).2.1 := by decide +kernel
theorem tyX3_ok : ∀ k, k < 3 → parseFieldDescriptor (TX3 k).2.2.1 = some (tyX3 k) := by decide +kernel
abbrev cX3_init : ByteArray := prog_1_method_1_code
def yX3_init : MethodName := ⟨RX3, "<init>", "()V"⟩
abbrev cX3_setOpen : ByteArray := prog_1_method_2_code
def yX3_setOpen : MethodName := ⟨RX3, "setOpen", "(IZ)Z"⟩
abbrev cX3_setKey : ByteArray := prog_1_method_3_code
def yX3_setKey : MethodName := ⟨RX3, "setKey", "(II)I"⟩
abbrev cX3_isOpen : ByteArray := prog_1_method_4_code
def yX3_isOpen : MethodName := ⟨RX3, "isOpen", "(I)Z"⟩
abbrev cX3_key : ByteArray := prog_1_method_5_code
def yX3_key : MethodName := ⟨RX3, "key", "(I)I"⟩
abbrev cX3_cover : ByteArray := prog_1_method_6_code
def yX3_cover : MethodName := ⟨RX3, "cover", "(II)I"⟩
abbrev cX3_uncover : ByteArray := prog_1_method_7_code
def yX3_uncover : MethodName := ⟨RX3, "uncover", "(II)I"⟩
abbrev cX3_lay : ByteArray := prog_1_method_8_code
def yX3_lay : MethodName := ⟨RX3, "lay", "(IIII)I"⟩
abbrev cX3_takeUp : ByteArray := prog_1_method_9_code
def yX3_takeUp : MethodName := ⟨RX3, "takeUp", "()I"⟩
abbrev cX3_roads : ByteArray := prog_1_method_10_code
def yX3_roads : MethodName := ⟨RX3, "roads", "()I"⟩
abbrev cX3_inn : ByteArray := prog_1_method_11_code
def yX3_inn : MethodName := ⟨RX3, "inn", "(II)I"⟩
abbrev cX3_hall : ByteArray := prog_1_method_12_code
def yX3_hall : MethodName := ⟨RX3, "hall", "(I)I"⟩
abbrev cX3_stands : ByteArray := prog_1_method_13_code
def yX3_stands : MethodName := ⟨RX3, "stands", "(I)Z"⟩
abbrev cX3_see : ByteArray := prog_1_method_14_code
def yX3_see : MethodName := ⟨RX3, "see", "(III)I"⟩
abbrev cX3_known : ByteArray := prog_1_method_15_code
def yX3_known : MethodName := ⟨RX3, "known", "(I)I"⟩
abbrev cX3_send : ByteArray := prog_1_method_16_code
def yX3_send : MethodName := ⟨RX3, "send", "(II)I"⟩
abbrev cX3_answer : ByteArray := prog_1_method_17_code
def yX3_answer : MethodName := ⟨RX3, "answer", "(II)I"⟩
abbrev cX3_pass : ByteArray := prog_1_method_18_code
def yX3_pass : MethodName := ⟨RX3, "pass", "(I)I"⟩
abbrev cX3_envelopes : ByteArray := prog_1_method_19_code
def yX3_envelopes : MethodName := ⟨RX3, "envelopes", "()I"⟩
abbrev cX3_envelope : ByteArray := prog_1_method_20_code
def yX3_envelope : MethodName := ⟨RX3, "envelope", "(II)I"⟩
abbrev cX3_letter : ByteArray := prog_1_method_21_code
def yX3_letter : MethodName := ⟨RX3, "letter", "(I)I"⟩
abbrev cX3_lastAnswer : ByteArray := prog_1_method_22_code
def yX3_lastAnswer : MethodName := ⟨RX3, "lastAnswer", "()I"⟩
abbrev cX3_count : ByteArray := prog_1_method_23_code
def yX3_count : MethodName := ⟨RX3, "count", "(I)I"⟩
abbrev cX3_deliveredShare : ByteArray := prog_1_method_24_code
def yX3_deliveredShare : MethodName := ⟨RX3, "deliveredShare", "()D"⟩
abbrev cX3_lostIfClosed : ByteArray := prog_1_method_25_code
def yX3_lostIfClosed : MethodName := ⟨RX3, "lostIfClosed", "(I)I"⟩
abbrev cX3_ticksTo : ByteArray := prog_1_method_26_code
def yX3_ticksTo : MethodName := ⟨RX3, "ticksTo", "(I)I"⟩
abbrev cX3_leastWork : ByteArray := prog_1_method_27_code
def yX3_leastWork : MethodName := ⟨RX3, "leastWork", "(I)I"⟩
abbrev cX3_append : ByteArray := prog_1_method_28_code
def yX3_append : MethodName := ⟨RX3, "append", "(I)I"⟩
abbrev cX3_clearText : ByteArray := prog_1_method_29_code
def yX3_clearText : MethodName := ⟨RX3, "clearText", "()I"⟩
abbrev cX3_firstError : ByteArray := prog_1_method_30_code
def yX3_firstError : MethodName := ⟨RX3, "firstError", "()I"⟩
abbrev cX3_run : ByteArray := prog_1_method_31_code
def yX3_run : MethodName := ⟨RX3, "run", "()I"⟩
abbrev cX3_undo : ByteArray := prog_1_method_32_code
def yX3_undo : MethodName := ⟨RX3, "undo", "()I"⟩
abbrev cX3_savedStates : ByteArray := prog_1_method_33_code
def yX3_savedStates : MethodName := ⟨RX3, "savedStates", "()I"⟩
abbrev cX3_digest : ByteArray := prog_1_method_34_code
def yX3_digest : MethodName := ⟨RX3, "digest", "()J"⟩
abbrev cX3_refuse : ByteArray := prog_1_method_35_code
def yX3_refuse : MethodName := ⟨RX3, "refuse", "(I)V"⟩
abbrev cX3_innFault : ByteArray := prog_1_method_36_code
def yX3_innFault : MethodName := ⟨RX3, "innFault", "(I)I"⟩
abbrev cX3_hallFault : ByteArray := prog_1_method_37_code
def yX3_hallFault : MethodName := ⟨RX3, "hallFault", "(I)I"⟩
abbrev cX3_roadFault : ByteArray := prog_1_method_38_code
def yX3_roadFault : MethodName := ⟨RX3, "roadFault", "(I)I"⟩
abbrev cX3_envelopeFault : ByteArray := prog_1_method_39_code
def yX3_envelopeFault : MethodName := ⟨RX3, "envelopeFault", "(I)I"⟩
abbrev cX3_innAndBodyFault : ByteArray := prog_1_method_40_code
def yX3_innAndBodyFault : MethodName := ⟨RX3, "innAndBodyFault", "(II)I"⟩
abbrev cX3_layFault : ByteArray := prog_1_method_41_code
def yX3_layFault : MethodName := ⟨RX3, "layFault", "(IIII)I"⟩
abbrev cX3_sendFault : ByteArray := prog_1_method_42_code
def yX3_sendFault : MethodName := ⟨RX3, "sendFault", "(II)I"⟩
abbrev cX3_answerFault : ByteArray := prog_1_method_43_code
def yX3_answerFault : MethodName := ⟨RX3, "answerFault", "(II)I"⟩
abbrev cX3_executeOrder : ByteArray := prog_1_method_44_code
def yX3_executeOrder : MethodName := ⟨RX3, "executeOrder", "(II)Z"⟩
abbrev cX3_layIfFine : ByteArray := prog_1_method_45_code
def yX3_layIfFine : MethodName := ⟨RX3, "layIfFine", "(IIII)Z"⟩
abbrev cX3_sendIfFine : ByteArray := prog_1_method_46_code
def yX3_sendIfFine : MethodName := ⟨RX3, "sendIfFine", "(II)Z"⟩
abbrev cX3_answerIfFine : ByteArray := prog_1_method_47_code
def yX3_answerIfFine : MethodName := ⟨RX3, "answerIfFine", "(II)Z"⟩
abbrev cX3_mixed : ByteArray := prog_1_method_48_code
def yX3_mixed : MethodName := ⟨RX3, "mixed", "(JI)J"⟩
abbrev cX3_mixedRow : ByteArray := prog_1_method_49_code
def yX3_mixedRow : MethodName := ⟨RX3, "mixedRow", "(J[I)J"⟩
abbrev cX3_mixedInns : ByteArray := prog_1_method_50_code
def yX3_mixedInns : MethodName := ⟨RX3, "mixedInns", "(J)J"⟩
abbrev cX3_mixedRoads : ByteArray := prog_1_method_51_code
def yX3_mixedRoads : MethodName := ⟨RX3, "mixedRoads", "(J)J"⟩
abbrev cX3_mixedEnvelopes : ByteArray := prog_1_method_52_code
def yX3_mixedEnvelopes : MethodName := ⟨RX3, "mixedEnvelopes", "(J)J"⟩
abbrev cX3_isBetween : ByteArray := prog_1_method_53_code
def yX3_isBetween : MethodName := ⟨RX3, "isBetween", "(III)Z"⟩
abbrev cX3_isBody : ByteArray := prog_1_method_54_code
def yX3_isBody : MethodName := ⟨RX3, "isBody", "(I)Z"⟩
abbrev cX3_covered : ByteArray := prog_1_method_55_code
def yX3_covered : MethodName := ⟨RX3, "covered", "(II)I"⟩
abbrev cX3_uncovered : ByteArray := prog_1_method_56_code
def yX3_uncovered : MethodName := ⟨RX3, "uncovered", "(II)I"⟩
abbrev cX3_read : ByteArray := prog_1_method_57_code
def yX3_read : MethodName := ⟨RX3, "read", "([II)I"⟩
abbrev cX3_write : ByteArray := prog_1_method_58_code
def yX3_write : MethodName := ⟨RX3, "write", "([III)V"⟩
abbrev cX3_copyRow : ByteArray := prog_1_method_59_code
def yX3_copyRow : MethodName := ⟨RX3, "copyRow", "([I[I)V"⟩
def RX4 : String := "NestedEnvelopesModel"
def TX4 : u_T := fun k => match k with
  | 0 => ("NestedEnvelopesModel", "thrown", "I", false)
  | 1 => ("NestedEnvelopesModel", "s", "[I", true)
  | 2 => ("NestedEnvelopesModel", "saved", "I", false)
  | 3 => ("NestedEnvelopesModel", "text", "[I", true)
  | 4 => ("NestedEnvelopesModel", "length", "I", false)
  | 5 => ("NestedEnvelopesModel", "at", "I", false)
  | 6 => ("NestedEnvelopesModel", "letter", "I", false)
  | 7 => ("NestedEnvelopesModel", "first", "I", false)
  | 8 => ("NestedEnvelopesModel", "second", "I", false)
  | 9 => ("NestedEnvelopesModel", "third", "I", false)
  | 10 => ("NestedEnvelopesModel", "fourth", "I", false)
  | _ => ("NestedEnvelopesModel", "hash", "J", false)
def tyX4 : Nat → FieldType := fun k => match k with
  | 0 => .int
  | 1 => .array .int
  | 2 => .int
  | 3 => .array .int
  | 4 => .int
  | 5 => .int
  | 6 => .int
  | 7 => .int
  | 8 => .int
  | 9 => .int
  | 10 => .int
  | _ => .long
abbrev wsX40 : List Cond := u_ws RX4 TX4 12
theorem nmX4 : ∀ a, a < 12 → ∀ b, b < 12 → a ≠ b → (TX4 a).2.1 ≠ (TX4 b).2.1 := by decide +kernel
theorem tyX4_ok : ∀ k, k < 12 → parseFieldDescriptor (TX4 k).2.2.1 = some (tyX4 k) := by decide +kernel
abbrev cX4_init : ByteArray := prog_6_method_1_code
def yX4_init : MethodName := ⟨RX4, "<init>", "()V"⟩
abbrev cX4_thrown : ByteArray := prog_6_method_2_code
def yX4_thrown : MethodName := ⟨RX4, "thrown", "()I"⟩
abbrev cX4_in : ByteArray := prog_6_method_3_code
def yX4_in : MethodName := ⟨RX4, "in", "(III)Z"⟩
abbrev cX4_holds : ByteArray := prog_6_method_4_code
def yX4_holds : MethodName := ⟨RX4, "holds", "(I)Z"⟩
abbrev cX4_told : ByteArray := prog_6_method_5_code
def yX4_told : MethodName := ⟨RX4, "told", "(I)I"⟩
abbrev cX4_isInn : ByteArray := prog_6_method_6_code
def yX4_isInn : MethodName := ⟨RX4, "isInn", "(I)Z"⟩
abbrev cX4_isHall : ByteArray := prog_6_method_7_code
def yX4_isHall : MethodName := ⟨RX4, "isHall", "(I)Z"⟩
abbrev cX4_isRoad : ByteArray := prog_6_method_8_code
def yX4_isRoad : MethodName := ⟨RX4, "isRoad", "(I)Z"⟩
abbrev cX4_isEnvelope : ByteArray := prog_6_method_9_code
def yX4_isEnvelope : MethodName := ⟨RX4, "isEnvelope", "(I)Z"⟩
abbrev cX4_isBody : ByteArray := prog_6_method_10_code
def yX4_isBody : MethodName := ⟨RX4, "isBody", "(I)Z"⟩
abbrev cX4_covered : ByteArray := prog_6_method_11_code
def yX4_covered : MethodName := ⟨RX4, "covered", "(II)I"⟩
abbrev cX4_uncovered : ByteArray := prog_6_method_12_code
def yX4_uncovered : MethodName := ⟨RX4, "uncovered", "(II)I"⟩
abbrev cX4_innOf : ByteArray := prog_6_method_13_code
def yX4_innOf : MethodName := ⟨RX4, "innOf", "(II)I"⟩
abbrev cX4_keyOf : ByteArray := prog_6_method_14_code
def yX4_keyOf : MethodName := ⟨RX4, "keyOf", "(II)I"⟩
abbrev cX4_hallOf : ByteArray := prog_6_method_15_code
def yX4_hallOf : MethodName := ⟨RX4, "hallOf", "(I)I"⟩
abbrev cX4_placeOn : ByteArray := prog_6_method_16_code
def yX4_placeOn : MethodName := ⟨RX4, "placeOn", "(II)I"⟩
abbrev cX4_of : ByteArray := prog_6_method_17_code
def yX4_of : MethodName := ⟨RX4, "of", "(II)I"⟩
abbrev cX4_lay4 : ByteArray := prog_6_method_18_code
def yX4_lay4 : MethodName := ⟨RX4, "lay4", "(III)V"⟩
abbrev cX4_isOpenNow : ByteArray := prog_6_method_19_code
def yX4_isOpenNow : MethodName := ⟨RX4, "isOpenNow", "(I)Z"⟩
abbrev cX4_standsNow : ByteArray := prog_6_method_20_code
def yX4_standsNow : MethodName := ⟨RX4, "standsNow", "(I)Z"⟩
abbrev cX4_puts : ByteArray := prog_6_method_21_code
def yX4_puts : MethodName := ⟨RX4, "puts", "(IIII)I"⟩
abbrev cX4_sends : ByteArray := prog_6_method_22_code
def yX4_sends : MethodName := ⟨RX4, "sends", "(II)I"⟩
abbrev cX4_answers : ByteArray := prog_6_method_23_code
def yX4_answers : MethodName := ⟨RX4, "answers", "(II)I"⟩
abbrev cX4_leaves : ByteArray := prog_6_method_24_code
def yX4_leaves : MethodName := ⟨RX4, "leaves", "(I)V"⟩
abbrev cX4_arrives : ByteArray := prog_6_method_25_code
def yX4_arrives : MethodName := ⟨RX4, "arrives", "(I)V"⟩
abbrev cX4_moves : ByteArray := prog_6_method_26_code
def yX4_moves : MethodName := ⟨RX4, "moves", "(I)V"⟩
abbrev cX4_ticks : ByteArray := prog_6_method_27_code
def yX4_ticks : MethodName := ⟨RX4, "ticks", "()V"⟩
abbrev cX4_passes : ByteArray := prog_6_method_28_code
def yX4_passes : MethodName := ⟨RX4, "passes", "(I)I"⟩
abbrev cX4_arrivesIn : ByteArray := prog_6_method_29_code
def yX4_arrivesIn : MethodName := ⟨RX4, "arrivesIn", "(II)I"⟩
abbrev cX4_lays : ByteArray := prog_6_method_30_code
def yX4_lays : MethodName := ⟨RX4, "lays", "(IIII)I"⟩
abbrev cX4_canLay : ByteArray := prog_6_method_31_code
def yX4_canLay : MethodName := ⟨RX4, "canLay", "(III)Z"⟩
abbrev cX4_canTakeUp : ByteArray := prog_6_method_32_code
def yX4_canTakeUp : MethodName := ⟨RX4, "canTakeUp", "()Z"⟩
abbrev cX4_isRoom : ByteArray := prog_6_method_33_code
def yX4_isRoom : MethodName := ⟨RX4, "isRoom", "()Z"⟩
abbrev cX4_canAnswer : ByteArray := prog_6_method_34_code
def yX4_canAnswer : MethodName := ⟨RX4, "canAnswer", "(I)Z"⟩
abbrev cX4_copies : ByteArray := prog_6_method_35_code
def yX4_copies : MethodName := ⟨RX4, "copies", "(II)V"⟩
abbrev cX4_save : ByteArray := prog_6_method_36_code
def yX4_save : MethodName := ⟨RX4, "save", "()V"⟩
abbrev cX4_changed : ByteArray := prog_6_method_37_code
def yX4_changed : MethodName := ⟨RX4, "changed", "(II)I"⟩
abbrev cX4_setOpen : ByteArray := prog_6_method_38_code
def yX4_setOpen : MethodName := ⟨RX4, "setOpen", "(IZ)Z"⟩
abbrev cX4_setKey : ByteArray := prog_6_method_39_code
def yX4_setKey : MethodName := ⟨RX4, "setKey", "(II)I"⟩
abbrev cX4_isOpen : ByteArray := prog_6_method_40_code
def yX4_isOpen : MethodName := ⟨RX4, "isOpen", "(I)Z"⟩
abbrev cX4_key : ByteArray := prog_6_method_41_code
def yX4_key : MethodName := ⟨RX4, "key", "(I)I"⟩
abbrev cX4_cover : ByteArray := prog_6_method_42_code
def yX4_cover : MethodName := ⟨RX4, "cover", "(II)I"⟩
abbrev cX4_uncover : ByteArray := prog_6_method_43_code
def yX4_uncover : MethodName := ⟨RX4, "uncover", "(II)I"⟩
abbrev cX4_lay : ByteArray := prog_6_method_44_code
def yX4_lay : MethodName := ⟨RX4, "lay", "(IIII)I"⟩
abbrev cX4_takeUp : ByteArray := prog_6_method_45_code
def yX4_takeUp : MethodName := ⟨RX4, "takeUp", "()I"⟩
abbrev cX4_roads : ByteArray := prog_6_method_46_code
def yX4_roads : MethodName := ⟨RX4, "roads", "()I"⟩
abbrev cX4_inn : ByteArray := prog_6_method_47_code
def yX4_inn : MethodName := ⟨RX4, "inn", "(II)I"⟩
abbrev cX4_hall : ByteArray := prog_6_method_48_code
def yX4_hall : MethodName := ⟨RX4, "hall", "(I)I"⟩
abbrev cX4_stands : ByteArray := prog_6_method_49_code
def yX4_stands : MethodName := ⟨RX4, "stands", "(I)Z"⟩
abbrev cX4_seen : ByteArray := prog_6_method_50_code
def yX4_seen : MethodName := ⟨RX4, "seen", "(III)I"⟩
abbrev cX4_see : ByteArray := prog_6_method_51_code
def yX4_see : MethodName := ⟨RX4, "see", "(III)I"⟩
abbrev cX4_knownTo : ByteArray := prog_6_method_52_code
def yX4_knownTo : MethodName := ⟨RX4, "knownTo", "(I)I"⟩
abbrev cX4_known : ByteArray := prog_6_method_53_code
def yX4_known : MethodName := ⟨RX4, "known", "(I)I"⟩
abbrev cX4_send : ByteArray := prog_6_method_54_code
def yX4_send : MethodName := ⟨RX4, "send", "(II)I"⟩
abbrev cX4_answer : ByteArray := prog_6_method_55_code
def yX4_answer : MethodName := ⟨RX4, "answer", "(II)I"⟩
abbrev cX4_pass : ByteArray := prog_6_method_56_code
def yX4_pass : MethodName := ⟨RX4, "pass", "(I)I"⟩
abbrev cX4_envelopes : ByteArray := prog_6_method_57_code
def yX4_envelopes : MethodName := ⟨RX4, "envelopes", "()I"⟩
abbrev cX4_envelope : ByteArray := prog_6_method_58_code
def yX4_envelope : MethodName := ⟨RX4, "envelope", "(II)I"⟩
abbrev cX4_letter : ByteArray := prog_6_method_59_code
def yX4_letter : MethodName := ⟨RX4, "letter", "(I)I"⟩
abbrev cX4_lastAnswer : ByteArray := prog_6_method_60_code
def yX4_lastAnswer : MethodName := ⟨RX4, "lastAnswer", "()I"⟩
abbrev cX4_count : ByteArray := prog_6_method_61_code
def yX4_count : MethodName := ⟨RX4, "count", "(I)I"⟩
abbrev cX4_deliveredShare : ByteArray := prog_6_method_62_code
def yX4_deliveredShare : MethodName := ⟨RX4, "deliveredShare", "()D"⟩
abbrev cX4_lostBy : ByteArray := prog_6_method_63_code
def yX4_lostBy : MethodName := ⟨RX4, "lostBy", "(I)I"⟩
abbrev cX4_lostIfClosed : ByteArray := prog_6_method_64_code
def yX4_lostIfClosed : MethodName := ⟨RX4, "lostIfClosed", "(I)I"⟩
abbrev cX4_ticksTo : ByteArray := prog_6_method_65_code
def yX4_ticksTo : MethodName := ⟨RX4, "ticksTo", "(I)I"⟩
abbrev cX4_work : ByteArray := prog_6_method_66_code
def yX4_work : MethodName := ⟨RX4, "work", "(I)I"⟩
abbrev cX4_least : ByteArray := prog_6_method_67_code
def yX4_least : MethodName := ⟨RX4, "least", "(I)I"⟩
abbrev cX4_leastWork : ByteArray := prog_6_method_68_code
def yX4_leastWork : MethodName := ⟨RX4, "leastWork", "(I)I"⟩
abbrev cX4_append : ByteArray := prog_6_method_69_code
def yX4_append : MethodName := ⟨RX4, "append", "(I)I"⟩
abbrev cX4_clearText : ByteArray := prog_6_method_70_code
def yX4_clearText : MethodName := ⟨RX4, "clearText", "()I"⟩
abbrev cX4_sign : ByteArray := prog_6_method_71_code
def yX4_sign : MethodName := ⟨RX4, "sign", "()I"⟩
abbrev cX4_takes : ByteArray := prog_6_method_72_code
def yX4_takes : MethodName := ⟨RX4, "takes", "(I)Z"⟩
abbrev cX4_figure : ByteArray := prog_6_method_73_code
def yX4_figure : MethodName := ⟨RX4, "figure", "(II)I"⟩
abbrev cX4_readsInn : ByteArray := prog_6_method_74_code
def yX4_readsInn : MethodName := ⟨RX4, "readsInn", "(II)I"⟩
abbrev cX4_readsRoad : ByteArray := prog_6_method_75_code
def yX4_readsRoad : MethodName := ⟨RX4, "readsRoad", "()Z"⟩
abbrev cX4_readsBody : ByteArray := prog_6_method_76_code
def yX4_readsBody : MethodName := ⟨RX4, "readsBody", "()Z"⟩
abbrev cX4_readsOrder : ByteArray := prog_6_method_77_code
def yX4_readsOrder : MethodName := ⟨RX4, "readsOrder", "()Z"⟩
abbrev cX4_areOrders : ByteArray := prog_6_method_78_code
def yX4_areOrders : MethodName := ⟨RX4, "areOrders", "()Z"⟩
abbrev cX4_firstError : ByteArray := prog_6_method_79_code
def yX4_firstError : MethodName := ⟨RX4, "firstError", "()I"⟩
abbrev cX4_isDone : ByteArray := prog_6_method_80_code
def yX4_isDone : MethodName := ⟨RX4, "isDone", "()Z"⟩
abbrev cX4_run : ByteArray := prog_6_method_81_code
def yX4_run : MethodName := ⟨RX4, "run", "()I"⟩
abbrev cX4_undo : ByteArray := prog_6_method_82_code
def yX4_undo : MethodName := ⟨RX4, "undo", "()I"⟩
abbrev cX4_savedStates : ByteArray := prog_6_method_83_code
def yX4_savedStates : MethodName := ⟨RX4, "savedStates", "()I"⟩
abbrev cX4_mix : ByteArray := prog_6_method_84_code
def yX4_mix : MethodName := ⟨RX4, "mix", "(J)V"⟩
abbrev cX4_digest : ByteArray := prog_6_method_85_code
def yX4_digest : MethodName := ⟨RX4, "digest", "()J"⟩
def RJx145de : String := "java/io/Serializable"
def TJx145de : u_T := fun k => match k with
  | _ => ("", "", "", false)
def tyJx145de : Nat → FieldType := fun k => match k with
  | _ => .int
abbrev wsJx145de0 : List Cond := u_ws RJx145de TJx145de 0
theorem nmJx145de : ∀ a, a < 0 → ∀ b, b < 0 → a ≠ b → (TJx145de a).2.1 ≠ (TJx145de b).2.1 := by decide +kernel
theorem tyJx145de_ok : ∀ k, k < 0 → parseFieldDescriptor (TJx145de k).2.2.1 = some (tyJx145de k) := by decide +kernel
def RJ9 : String := "java/lang/Math"
def TJ9 : u_T := fun k => match k with
  | _ => ("", "", "", false)
def tyJ9 : Nat → FieldType := fun k => match k with
  | _ => .int
abbrev wsJ90 : List Cond := u_ws RJ9 TJ9 0
theorem nmJ9 : ∀ a, a < 0 → ∀ b, b < 0 → a ≠ b → (TJ9 a).2.1 ≠ (TJ9 b).2.1 := by decide +kernel
theorem tyJ9_ok : ∀ k, k < 0 → parseFieldDescriptor (TJ9 k).2.2.1 = some (tyJ9 k) := by decide +kernel
abbrev cJ9_floorMod_7cf53 : ByteArray := prog_11_method_50_code
def yJ9_floorMod_7cf53 : MethodName := ⟨RJ9, "floorMod", "(II)I"⟩
abbrev cJ9_min_7cf53 : ByteArray := prog_11_method_69_code
def yJ9_min_7cf53 : MethodName := ⟨RJ9, "min", "(II)I"⟩
def RJ0 : String := "java/lang/String"
def TJ0 : u_T := fun k => match k with
  | _ => ("", "", "", false)
def tyJ0 : Nat → FieldType := fun k => match k with
  | _ => .int
abbrev wsJ00 : List Cond := u_ws RJ0 TJ0 0
theorem nmJ0 : ∀ a, a < 0 → ∀ b, b < 0 → a ≠ b → (TJ0 a).2.1 ≠ (TJ0 b).2.1 := by decide +kernel
theorem tyJ0_ok : ∀ k, k < 0 → parseFieldDescriptor (TJ0 k).2.2.1 = some (tyJ0 k) := by decide +kernel
def RJ10 : String := "java/lang/System"
def TJ10 : u_T := fun k => match k with
  | _ => ("", "", "", false)
def tyJ10 : Nat → FieldType := fun k => match k with
  | _ => .int
abbrev wsJ100 : List Cond := u_ws RJ10 TJ10 0
theorem nmJ10 : ∀ a, a < 0 → ∀ b, b < 0 → a ≠ b → (TJ10 a).2.1 ≠ (TJ10 b).2.1 := by decide +kernel
theorem tyJ10_ok : ∀ k, k < 0 → parseFieldDescriptor (TJ10 k).2.2.1 = some (tyJ10 k) := by decide +kernel
def RJ7 : String := "java/util/Arrays"
def TJ7 : u_T := fun k => match k with
  | _ => ("", "", "", false)
def tyJ7 : Nat → FieldType := fun k => match k with
  | _ => .int
abbrev wsJ70 : List Cond := u_ws RJ7 TJ7 0
theorem nmJ7 : ∀ a, a < 0 → ∀ b, b < 0 → a ≠ b → (TJ7 a).2.1 ≠ (TJ7 b).2.1 := by decide +kernel
theorem tyJ7_ok : ∀ k, k < 0 → parseFieldDescriptor (TJ7 k).2.2.1 = some (tyJ7 k) := by decide +kernel
abbrev cJ7_fill_53178 : ByteArray := prog_16_method_103_code
def yJ7_fill_53178 : MethodName := ⟨RJ7, "fill", "([II)V"⟩
def RL : String := "NestedEnvelopesLaw"
abbrev cL_setOpen : ByteArray := method_3_code
def yL_setOpen : MethodName := ⟨RL, "setOpen", "(LNestedEnvelopes;IZ[J)I"⟩
abbrev cL_setKey : ByteArray := method_4_code
def yL_setKey : MethodName := ⟨RL, "setKey", "(LNestedEnvelopes;II[J)I"⟩
abbrev cL_isOpen : ByteArray := method_5_code
def yL_isOpen : MethodName := ⟨RL, "isOpen", "(LNestedEnvelopes;I[J)I"⟩
abbrev cL_key : ByteArray := method_6_code
def yL_key : MethodName := ⟨RL, "key", "(LNestedEnvelopes;I[J)I"⟩
abbrev cL_cover : ByteArray := method_7_code
def yL_cover : MethodName := ⟨RL, "cover", "(LNestedEnvelopes;II[J)I"⟩
abbrev cL_uncover : ByteArray := method_8_code
def yL_uncover : MethodName := ⟨RL, "uncover", "(LNestedEnvelopes;II[J)I"⟩
abbrev cL_lay : ByteArray := method_9_code
def yL_lay : MethodName := ⟨RL, "lay", "(LNestedEnvelopes;IIII[J)I"⟩
abbrev cL_takeUp : ByteArray := method_10_code
def yL_takeUp : MethodName := ⟨RL, "takeUp", "(LNestedEnvelopes;[J)I"⟩
abbrev cL_inn : ByteArray := method_11_code
def yL_inn : MethodName := ⟨RL, "inn", "(LNestedEnvelopes;II[J)I"⟩
abbrev cL_hall : ByteArray := method_12_code
def yL_hall : MethodName := ⟨RL, "hall", "(LNestedEnvelopes;I[J)I"⟩
abbrev cL_stands : ByteArray := method_13_code
def yL_stands : MethodName := ⟨RL, "stands", "(LNestedEnvelopes;I[J)I"⟩
abbrev cL_see : ByteArray := method_14_code
def yL_see : MethodName := ⟨RL, "see", "(LNestedEnvelopes;III[J)I"⟩
abbrev cL_known : ByteArray := method_15_code
def yL_known : MethodName := ⟨RL, "known", "(LNestedEnvelopes;I[J)I"⟩
abbrev cL_send : ByteArray := method_16_code
def yL_send : MethodName := ⟨RL, "send", "(LNestedEnvelopes;II[J)I"⟩
abbrev cL_answer : ByteArray := method_17_code
def yL_answer : MethodName := ⟨RL, "answer", "(LNestedEnvelopes;II[J)I"⟩
abbrev cL_pass : ByteArray := method_18_code
def yL_pass : MethodName := ⟨RL, "pass", "(LNestedEnvelopes;I[J)I"⟩
abbrev cL_envelope : ByteArray := method_19_code
def yL_envelope : MethodName := ⟨RL, "envelope", "(LNestedEnvelopes;II[J)I"⟩
abbrev cL_letter : ByteArray := method_20_code
def yL_letter : MethodName := ⟨RL, "letter", "(LNestedEnvelopes;I[J)I"⟩
abbrev cL_count : ByteArray := method_21_code
def yL_count : MethodName := ⟨RL, "count", "(LNestedEnvelopes;I[J)I"⟩
abbrev cL_lostIfClosed : ByteArray := method_22_code
def yL_lostIfClosed : MethodName := ⟨RL, "lostIfClosed", "(LNestedEnvelopes;I[J)I"⟩
abbrev cL_ticksTo : ByteArray := method_23_code
def yL_ticksTo : MethodName := ⟨RL, "ticksTo", "(LNestedEnvelopes;I[J)I"⟩
abbrev cL_leastWork : ByteArray := method_24_code
def yL_leastWork : MethodName := ⟨RL, "leastWork", "(LNestedEnvelopes;I[J)I"⟩
abbrev cL_append : ByteArray := method_25_code
def yL_append : MethodName := ⟨RL, "append", "(LNestedEnvelopes;I[J)I"⟩
abbrev cL_run : ByteArray := method_26_code
def yL_run : MethodName := ⟨RL, "run", "(LNestedEnvelopes;[J)I"⟩
abbrev cL_undo : ByteArray := method_27_code
def yL_undo : MethodName := ⟨RL, "undo", "(LNestedEnvelopes;[J)I"⟩
abbrev cL_law : ByteArray := code
def yL_law : MethodName := ⟨RL, "law", "([I)Z"⟩
abbrev vwCl : List vw_C := [(RX0, TX0, 2), (RX1, TX1, 3), (RX2, TX2, 12), (RX3, TX3, 3), (RX4, TX4, 12)]
end
section
theorem dX0_init_0 : decode cX0_init 0 = .ok (.aload_n 0, 1) := by decide +kernel
theorem dX0_init_1 : decode cX0_init 1 = .ok (.invokespecial 3, 3) := by decide +kernel
theorem dX0_init_4 : decode cX0_init 4 = .ok (.aload_n 0, 1) := by decide +kernel
theorem dX0_init_5 : decode cX0_init 5 = .ok (.bipush 60, 2) := by decide +kernel
theorem dX0_init_7 : decode cX0_init 7 = .ok (.newarray .int, 2) := by decide +kernel
theorem dX0_init_9 : decode cX0_init 9 = .ok (.putfield 9, 3) := by decide +kernel
theorem dX0_init_12 : decode cX0_init 12 = .ok (.return_, 1) := by decide +kernel
theorem dX0_add_0 : decode cX0_add 0 = .ok (.aload_n 0, 1) := by decide +kernel
theorem dX0_add_1 : decode cX0_add 1 = .ok (.getfield 9, 3) := by decide +kernel
theorem dX0_add_4 : decode cX0_add 4 = .ok (.aload_n 0, 1) := by decide +kernel
theorem dX0_add_5 : decode cX0_add 5 = .ok (.getfield 15, 3) := by decide +kernel
theorem dX0_add_8 : decode cX0_add 8 = .ok (.iload_n 1, 1) := by decide +kernel
theorem dX0_add_9 : decode cX0_add 9 = .ok (.invokestatic 19, 3) := by decide +kernel
theorem dX0_add_12 : decode cX0_add 12 = .ok (.aload_n 0, 1) := by decide +kernel
theorem dX0_add_13 : decode cX0_add 13 = .ok (.dup, 1) := by decide +kernel
theorem dX0_add_14 : decode cX0_add 14 = .ok (.getfield 15, 3) := by decide +kernel
theorem dX0_add_17 : decode cX0_add 17 = .ok (.iconst 1, 1) := by decide +kernel
theorem dX0_add_18 : decode cX0_add 18 = .ok (.iadd, 1) := by decide +kernel
theorem dX0_add_19 : decode cX0_add 19 = .ok (.putfield 15, 3) := by decide +kernel
theorem dX0_add_22 : decode cX0_add 22 = .ok (.return_, 1) := by decide +kernel
theorem dX0_empty_0 : decode cX0_empty 0 = .ok (.aload_n 0, 1) := by decide +kernel
theorem dX0_empty_1 : decode cX0_empty 1 = .ok (.getfield 15, 3) := by decide +kernel
theorem dX0_empty_4 : decode cX0_empty 4 = .ok (.istore_n 1, 1) := by decide +kernel
theorem dX0_empty_5 : decode cX0_empty 5 = .ok (.aload_n 0, 1) := by decide +kernel
theorem dX0_empty_6 : decode cX0_empty 6 = .ok (.iconst 0, 1) := by decide +kernel
theorem dX0_empty_7 : decode cX0_empty 7 = .ok (.putfield 15, 3) := by decide +kernel
theorem dX0_empty_10 : decode cX0_empty 10 = .ok (.iload_n 1, 1) := by decide +kernel
theorem dX0_empty_11 : decode cX0_empty 11 = .ok (.ireturn, 1) := by decide +kernel
theorem dX0_codeAt_0 : decode cX0_codeAt 0 = .ok (.iload_n 1, 1) := by decide +kernel
theorem dX0_codeAt_1 : decode cX0_codeAt 1 = .ok (.ifCond .lt 29, 3) := by decide +kernel
theorem dX0_codeAt_4 : decode cX0_codeAt 4 = .ok (.iload_n 1, 1) := by decide +kernel
theorem dX0_codeAt_5 : decode cX0_codeAt 5 = .ok (.aload_n 0, 1) := by decide +kernel
theorem dX0_codeAt_6 : decode cX0_codeAt 6 = .ok (.getfield 15, 3) := by decide +kernel
theorem dX0_codeAt_9 : decode cX0_codeAt 9 = .ok (.if_icmp .ge 21, 3) := by decide +kernel
theorem dX0_codeAt_12 : decode cX0_codeAt 12 = .ok (.iload_n 1, 1) := by decide +kernel
theorem dX0_codeAt_13 : decode cX0_codeAt 13 = .ok (.aload_n 0, 1) := by decide +kernel
theorem dX0_codeAt_14 : decode cX0_codeAt 14 = .ok (.getfield 9, 3) := by decide +kernel
theorem dX0_codeAt_17 : decode cX0_codeAt 17 = .ok (.arraylength, 1) := by decide +kernel
theorem dX0_codeAt_18 : decode cX0_codeAt 18 = .ok (.if_icmp .ge 12, 3) := by decide +kernel
theorem dX0_codeAt_21 : decode cX0_codeAt 21 = .ok (.aload_n 0, 1) := by decide +kernel
theorem dX0_codeAt_22 : decode cX0_codeAt 22 = .ok (.getfield 9, 3) := by decide +kernel
theorem dX0_codeAt_25 : decode cX0_codeAt 25 = .ok (.iload_n 1, 1) := by decide +kernel
theorem dX0_codeAt_26 : decode cX0_codeAt 26 = .ok (.iaload, 1) := by decide +kernel
theorem dX0_codeAt_27 : decode cX0_codeAt 27 = .ok (.goto 4, 3) := by decide +kernel
theorem dX0_codeAt_30 : decode cX0_codeAt 30 = .ok (.iconst 0, 1) := by decide +kernel
theorem dX0_codeAt_31 : decode cX0_codeAt 31 = .ok (.ireturn, 1) := by decide +kernel
theorem dX0_digitAt_0 : decode cX0_digitAt 0 = .ok (.aload_n 0, 1) := by decide +kernel
theorem dX0_digitAt_1 : decode cX0_digitAt 1 = .ok (.iload_n 1, 1) := by decide +kernel
theorem dX0_digitAt_2 : decode cX0_digitAt 2 = .ok (.invokevirtual 23, 3) := by decide +kernel
theorem dX0_digitAt_5 : decode cX0_digitAt 5 = .ok (.bipush 48, 2) := by decide +kernel
theorem dX0_digitAt_7 : decode cX0_digitAt 7 = .ok (.isub, 1) := by decide +kernel
theorem dX0_digitAt_8 : decode cX0_digitAt 8 = .ok (.ireturn, 1) := by decide +kernel
theorem dX0_bodyOf_0 : decode cX0_bodyOf 0 = .ok (.iconst 0, 1) := by decide +kernel
theorem dX0_bodyOf_1 : decode cX0_bodyOf 1 = .ok (.istore_n 3, 1) := by decide +kernel
theorem dX0_bodyOf_2 : decode cX0_bodyOf 2 = .ok (.iload_n 1, 1) := by decide +kernel
theorem dX0_bodyOf_3 : decode cX0_bodyOf 3 = .ok (.iconst 3, 1) := by decide +kernel
theorem dX0_bodyOf_4 : decode cX0_bodyOf 4 = .ok (.iadd, 1) := by decide +kernel
theorem dX0_bodyOf_5 : decode cX0_bodyOf 5 = .ok (.istore 4, 2) := by decide +kernel
theorem dX0_bodyOf_7 : decode cX0_bodyOf 7 = .ok (.iload 4, 2) := by decide +kernel
theorem dX0_bodyOf_9 : decode cX0_bodyOf 9 = .ok (.iload_n 2, 1) := by decide +kernel
theorem dX0_bodyOf_10 : decode cX0_bodyOf 10 = .ok (.if_icmp .ge 21, 3) := by decide +kernel
theorem dX0_bodyOf_13 : decode cX0_bodyOf 13 = .ok (.bipush 10, 2) := by decide +kernel
theorem dX0_bodyOf_15 : decode cX0_bodyOf 15 = .ok (.iload_n 3, 1) := by decide +kernel
theorem dX0_bodyOf_16 : decode cX0_bodyOf 16 = .ok (.imul, 1) := by decide +kernel
theorem dX0_bodyOf_17 : decode cX0_bodyOf 17 = .ok (.aload_n 0, 1) := by decide +kernel
theorem dX0_bodyOf_18 : decode cX0_bodyOf 18 = .ok (.iload 4, 2) := by decide +kernel
theorem dX0_bodyOf_20 : decode cX0_bodyOf 20 = .ok (.invokevirtual 27, 3) := by decide +kernel
theorem dX0_bodyOf_23 : decode cX0_bodyOf 23 = .ok (.iadd, 1) := by decide +kernel
theorem dX0_bodyOf_24 : decode cX0_bodyOf 24 = .ok (.istore_n 3, 1) := by decide +kernel
theorem dX0_bodyOf_25 : decode cX0_bodyOf 25 = .ok (.iinc 4 1, 3) := by decide +kernel
theorem dX0_bodyOf_28 : decode cX0_bodyOf 28 = .ok (.goto (-21), 3) := by decide +kernel
theorem dX0_bodyOf_31 : decode cX0_bodyOf 31 = .ok (.iload_n 3, 1) := by decide +kernel
theorem dX0_bodyOf_32 : decode cX0_bodyOf 32 = .ok (.ireturn, 1) := by decide +kernel
theorem dX0_errorIndex_0 : decode cX0_errorIndex 0 = .ok (.iconst 0, 1) := by decide +kernel
theorem dX0_errorIndex_1 : decode cX0_errorIndex 1 = .ok (.istore_n 1, 1) := by decide +kernel
theorem dX0_errorIndex_2 : decode cX0_errorIndex 2 = .ok (.iconst 0, 1) := by decide +kernel
theorem dX0_errorIndex_3 : decode cX0_errorIndex 3 = .ok (.istore_n 2, 1) := by decide +kernel
theorem dX0_errorIndex_4 : decode cX0_errorIndex 4 = .ok (.iload_n 2, 1) := by decide +kernel
theorem dX0_errorIndex_5 : decode cX0_errorIndex 5 = .ok (.aload_n 0, 1) := by decide +kernel
theorem dX0_errorIndex_6 : decode cX0_errorIndex 6 = .ok (.getfield 15, 3) := by decide +kernel
theorem dX0_errorIndex_9 : decode cX0_errorIndex 9 = .ok (.if_icmp .ge 34, 3) := by decide +kernel
theorem dX0_errorIndex_12 : decode cX0_errorIndex 12 = .ok (.aload_n 0, 1) := by decide +kernel
theorem dX0_errorIndex_13 : decode cX0_errorIndex 13 = .ok (.iload_n 1, 1) := by decide +kernel
theorem dX0_errorIndex_14 : decode cX0_errorIndex 14 = .ok (.iload_n 2, 1) := by decide +kernel
theorem dX0_errorIndex_15 : decode cX0_errorIndex 15 = .ok (.invokevirtual 30, 3) := by decide +kernel
theorem dX0_errorIndex_18 : decode cX0_errorIndex 18 = .ok (.ifCond .ne 5, 3) := by decide +kernel
theorem dX0_errorIndex_21 : decode cX0_errorIndex 21 = .ok (.iload_n 2, 1) := by decide +kernel
theorem dX0_errorIndex_22 : decode cX0_errorIndex 22 = .ok (.ireturn, 1) := by decide +kernel
theorem dX0_errorIndex_23 : decode cX0_errorIndex 23 = .ok (.aload_n 0, 1) := by decide +kernel
theorem dX0_errorIndex_24 : decode cX0_errorIndex 24 = .ok (.iload_n 2, 1) := by decide +kernel
theorem dX0_errorIndex_25 : decode cX0_errorIndex 25 = .ok (.invokevirtual 23, 3) := by decide +kernel
theorem dX0_errorIndex_28 : decode cX0_errorIndex 28 = .ok (.bipush 59, 2) := by decide +kernel
theorem dX0_errorIndex_30 : decode cX0_errorIndex 30 = .ok (.if_icmp .ne 7, 3) := by decide +kernel
theorem dX0_errorIndex_33 : decode cX0_errorIndex 33 = .ok (.iload_n 2, 1) := by decide +kernel
theorem dX0_errorIndex_34 : decode cX0_errorIndex 34 = .ok (.iconst 1, 1) := by decide +kernel
theorem dX0_errorIndex_35 : decode cX0_errorIndex 35 = .ok (.iadd, 1) := by decide +kernel
theorem dX0_errorIndex_36 : decode cX0_errorIndex 36 = .ok (.istore_n 1, 1) := by decide +kernel
theorem dX0_errorIndex_37 : decode cX0_errorIndex 37 = .ok (.iinc 2 1, 3) := by decide +kernel
theorem dX0_errorIndex_40 : decode cX0_errorIndex 40 = .ok (.goto (-36), 3) := by decide +kernel
theorem dX0_errorIndex_43 : decode cX0_errorIndex 43 = .ok (.aload_n 0, 1) := by decide +kernel
theorem dX0_errorIndex_44 : decode cX0_errorIndex 44 = .ok (.getfield 15, 3) := by decide +kernel
theorem dX0_errorIndex_47 : decode cX0_errorIndex 47 = .ok (.ireturn, 1) := by decide +kernel
theorem dX0_isComplete_0 : decode cX0_isComplete 0 = .ok (.aload_n 0, 1) := by decide +kernel
theorem dX0_isComplete_1 : decode cX0_isComplete 1 = .ok (.invokevirtual 34, 3) := by decide +kernel
theorem dX0_isComplete_4 : decode cX0_isComplete 4 = .ok (.aload_n 0, 1) := by decide +kernel
theorem dX0_isComplete_5 : decode cX0_isComplete 5 = .ok (.getfield 15, 3) := by decide +kernel
theorem dX0_isComplete_8 : decode cX0_isComplete 8 = .ok (.if_icmp .ne 22, 3) := by decide +kernel
theorem dX0_isComplete_11 : decode cX0_isComplete 11 = .ok (.aload_n 0, 1) := by decide +kernel
theorem dX0_isComplete_12 : decode cX0_isComplete 12 = .ok (.aload_n 0, 1) := by decide +kernel
theorem dX0_isComplete_13 : decode cX0_isComplete 13 = .ok (.invokevirtual 38, 3) := by decide +kernel
theorem dX0_isComplete_16 : decode cX0_isComplete 16 = .ok (.aload_n 0, 1) := by decide +kernel
theorem dX0_isComplete_17 : decode cX0_isComplete 17 = .ok (.getfield 15, 3) := by decide +kernel
theorem dX0_isComplete_20 : decode cX0_isComplete 20 = .ok (.invokevirtual 41, 3) := by decide +kernel
theorem dX0_isComplete_23 : decode cX0_isComplete 23 = .ok (.ifCond .eq 7, 3) := by decide +kernel
theorem dX0_isComplete_26 : decode cX0_isComplete 26 = .ok (.iconst 1, 1) := by decide +kernel
theorem dX0_isComplete_27 : decode cX0_isComplete 27 = .ok (.goto 4, 3) := by decide +kernel
theorem dX0_isComplete_30 : decode cX0_isComplete 30 = .ok (.iconst 0, 1) := by decide +kernel
theorem dX0_isComplete_31 : decode cX0_isComplete 31 = .ok (.ireturn, 1) := by decide +kernel
theorem dX0_lastStart_0 : decode cX0_lastStart 0 = .ok (.iconst 0, 1) := by decide +kernel
theorem dX0_lastStart_1 : decode cX0_lastStart 1 = .ok (.istore_n 1, 1) := by decide +kernel
theorem dX0_lastStart_2 : decode cX0_lastStart 2 = .ok (.iconst 0, 1) := by decide +kernel
theorem dX0_lastStart_3 : decode cX0_lastStart 3 = .ok (.istore_n 2, 1) := by decide +kernel
theorem dX0_lastStart_4 : decode cX0_lastStart 4 = .ok (.iload_n 2, 1) := by decide +kernel
theorem dX0_lastStart_5 : decode cX0_lastStart 5 = .ok (.aload_n 0, 1) := by decide +kernel
theorem dX0_lastStart_6 : decode cX0_lastStart 6 = .ok (.getfield 15, 3) := by decide +kernel
theorem dX0_lastStart_9 : decode cX0_lastStart 9 = .ok (.if_icmp .ge 23, 3) := by decide +kernel
theorem dX0_lastStart_12 : decode cX0_lastStart 12 = .ok (.aload_n 0, 1) := by decide +kernel
theorem dX0_lastStart_13 : decode cX0_lastStart 13 = .ok (.iload_n 2, 1) := by decide +kernel
theorem dX0_lastStart_14 : decode cX0_lastStart 14 = .ok (.invokevirtual 23, 3) := by decide +kernel
theorem dX0_lastStart_17 : decode cX0_lastStart 17 = .ok (.bipush 59, 2) := by decide +kernel
theorem dX0_lastStart_19 : decode cX0_lastStart 19 = .ok (.if_icmp .ne 7, 3) := by decide +kernel
theorem dX0_lastStart_22 : decode cX0_lastStart 22 = .ok (.iload_n 2, 1) := by decide +kernel
theorem dX0_lastStart_23 : decode cX0_lastStart 23 = .ok (.iconst 1, 1) := by decide +kernel
theorem dX0_lastStart_24 : decode cX0_lastStart 24 = .ok (.iadd, 1) := by decide +kernel
theorem dX0_lastStart_25 : decode cX0_lastStart 25 = .ok (.istore_n 1, 1) := by decide +kernel
theorem dX0_lastStart_26 : decode cX0_lastStart 26 = .ok (.iinc 2 1, 3) := by decide +kernel
theorem dX0_lastStart_29 : decode cX0_lastStart 29 = .ok (.goto (-25), 3) := by decide +kernel
theorem dX0_lastStart_32 : decode cX0_lastStart 32 = .ok (.iload_n 1, 1) := by decide +kernel
theorem dX0_lastStart_33 : decode cX0_lastStart 33 = .ok (.ireturn, 1) := by decide +kernel
theorem dX0_endsOrder_0 : decode cX0_endsOrder 0 = .ok (.iload_n 2, 1) := by decide +kernel
theorem dX0_endsOrder_1 : decode cX0_endsOrder 1 = .ok (.iload_n 1, 1) := by decide +kernel
theorem dX0_endsOrder_2 : decode cX0_endsOrder 2 = .ok (.isub, 1) := by decide +kernel
theorem dX0_endsOrder_3 : decode cX0_endsOrder 3 = .ok (.istore_n 3, 1) := by decide +kernel
theorem dX0_endsOrder_4 : decode cX0_endsOrder 4 = .ok (.aload_n 0, 1) := by decide +kernel
theorem dX0_endsOrder_5 : decode cX0_endsOrder 5 = .ok (.iload_n 1, 1) := by decide +kernel
theorem dX0_endsOrder_6 : decode cX0_endsOrder 6 = .ok (.invokevirtual 23, 3) := by decide +kernel
theorem dX0_endsOrder_9 : decode cX0_endsOrder 9 = .ok (.lookupswitch 57 #[(97, 46), (114, 35), (115, 46)], 35) := by decide +kernel
theorem dX0_endsOrder_44 : decode cX0_endsOrder 44 = .ok (.iload_n 3, 1) := by decide +kernel
theorem dX0_endsOrder_45 : decode cX0_endsOrder 45 = .ok (.iconst 5, 1) := by decide +kernel
theorem dX0_endsOrder_46 : decode cX0_endsOrder 46 = .ok (.if_icmp .ne 7, 3) := by decide +kernel
theorem dX0_endsOrder_49 : decode cX0_endsOrder 49 = .ok (.iconst 1, 1) := by decide +kernel
theorem dX0_endsOrder_50 : decode cX0_endsOrder 50 = .ok (.goto 4, 3) := by decide +kernel
theorem dX0_endsOrder_53 : decode cX0_endsOrder 53 = .ok (.iconst 0, 1) := by decide +kernel
theorem dX0_endsOrder_54 : decode cX0_endsOrder 54 = .ok (.ireturn, 1) := by decide +kernel
theorem dX0_endsOrder_55 : decode cX0_endsOrder 55 = .ok (.iload_n 3, 1) := by decide +kernel
theorem dX0_endsOrder_56 : decode cX0_endsOrder 56 = .ok (.iconst 4, 1) := by decide +kernel
theorem dX0_endsOrder_57 : decode cX0_endsOrder 57 = .ok (.if_icmp .lt 7, 3) := by decide +kernel
theorem dX0_endsOrder_60 : decode cX0_endsOrder 60 = .ok (.iconst 1, 1) := by decide +kernel
theorem dX0_endsOrder_61 : decode cX0_endsOrder 61 = .ok (.goto 4, 3) := by decide +kernel
theorem dX0_endsOrder_64 : decode cX0_endsOrder 64 = .ok (.iconst 0, 1) := by decide +kernel
theorem dX0_endsOrder_65 : decode cX0_endsOrder 65 = .ok (.ireturn, 1) := by decide +kernel
theorem dX0_endsOrder_66 : decode cX0_endsOrder 66 = .ok (.iload_n 3, 1) := by decide +kernel
theorem dX0_endsOrder_67 : decode cX0_endsOrder 67 = .ok (.iconst 2, 1) := by decide +kernel
theorem dX0_endsOrder_68 : decode cX0_endsOrder 68 = .ok (.if_icmp .ne 7, 3) := by decide +kernel
theorem dX0_endsOrder_71 : decode cX0_endsOrder 71 = .ok (.iconst 1, 1) := by decide +kernel
theorem dX0_endsOrder_72 : decode cX0_endsOrder 72 = .ok (.goto 4, 3) := by decide +kernel
theorem dX0_endsOrder_75 : decode cX0_endsOrder 75 = .ok (.iconst 0, 1) := by decide +kernel
theorem dX0_endsOrder_76 : decode cX0_endsOrder 76 = .ok (.ireturn, 1) := by decide +kernel
theorem dX0_fits_0 : decode cX0_fits 0 = .ok (.aload_n 0, 1) := by decide +kernel
theorem dX0_fits_1 : decode cX0_fits 1 = .ok (.iload_n 2, 1) := by decide +kernel
theorem dX0_fits_2 : decode cX0_fits 2 = .ok (.invokevirtual 23, 3) := by decide +kernel
theorem dX0_fits_5 : decode cX0_fits 5 = .ok (.istore_n 3, 1) := by decide +kernel
theorem dX0_fits_6 : decode cX0_fits 6 = .ok (.iload_n 2, 1) := by decide +kernel
theorem dX0_fits_7 : decode cX0_fits 7 = .ok (.iload_n 1, 1) := by decide +kernel
theorem dX0_fits_8 : decode cX0_fits 8 = .ok (.isub, 1) := by decide +kernel
theorem dX0_fits_9 : decode cX0_fits 9 = .ok (.istore 4, 2) := by decide +kernel
theorem dX0_fits_11 : decode cX0_fits 11 = .ok (.iload 4, 2) := by decide +kernel
theorem dX0_fits_13 : decode cX0_fits 13 = .ok (.ifCond .ne 8, 3) := by decide +kernel
theorem dX0_fits_16 : decode cX0_fits 16 = .ok (.iload_n 3, 1) := by decide +kernel
theorem dX0_fits_17 : decode cX0_fits 17 = .ok (.invokestatic 44, 3) := by decide +kernel
theorem dX0_fits_20 : decode cX0_fits 20 = .ok (.ireturn, 1) := by decide +kernel
theorem dX0_fits_21 : decode cX0_fits 21 = .ok (.iload_n 3, 1) := by decide +kernel
theorem dX0_fits_22 : decode cX0_fits 22 = .ok (.bipush 59, 2) := by decide +kernel
theorem dX0_fits_24 : decode cX0_fits 24 = .ok (.if_icmp .ne 10, 3) := by decide +kernel
theorem dX0_fits_27 : decode cX0_fits 27 = .ok (.aload_n 0, 1) := by decide +kernel
theorem dX0_fits_28 : decode cX0_fits 28 = .ok (.iload_n 1, 1) := by decide +kernel
theorem dX0_fits_29 : decode cX0_fits 29 = .ok (.iload_n 2, 1) := by decide +kernel
theorem dX0_fits_30 : decode cX0_fits 30 = .ok (.invokevirtual 41, 3) := by decide +kernel
theorem dX0_fits_33 : decode cX0_fits 33 = .ok (.ireturn, 1) := by decide +kernel
theorem dX0_fits_34 : decode cX0_fits 34 = .ok (.aload_n 0, 1) := by decide +kernel
theorem dX0_fits_35 : decode cX0_fits 35 = .ok (.iload_n 1, 1) := by decide +kernel
theorem dX0_fits_36 : decode cX0_fits 36 = .ok (.invokevirtual 23, 3) := by decide +kernel
theorem dX0_fits_39 : decode cX0_fits 39 = .ok (.lookupswitch 119 #[(97, 72), (114, 41), (115, 48), (116, 96)], 41) := by decide +kernel
theorem dX0_fits_80 : decode cX0_fits 80 = .ok (.aload_n 0, 1) := by decide +kernel
theorem dX0_fits_81 : decode cX0_fits 81 = .ok (.iload_n 1, 1) := by decide +kernel
theorem dX0_fits_82 : decode cX0_fits 82 = .ok (.iload_n 2, 1) := by decide +kernel
theorem dX0_fits_83 : decode cX0_fits 83 = .ok (.invokevirtual 48, 3) := by decide +kernel
theorem dX0_fits_86 : decode cX0_fits 86 = .ok (.ireturn, 1) := by decide +kernel
theorem dX0_fits_87 : decode cX0_fits 87 = .ok (.iload 4, 2) := by decide +kernel
theorem dX0_fits_89 : decode cX0_fits 89 = .ok (.iconst 1, 1) := by decide +kernel
theorem dX0_fits_90 : decode cX0_fits 90 = .ok (.if_icmp .ne 14, 3) := by decide +kernel
theorem dX0_fits_93 : decode cX0_fits 93 = .ok (.iload_n 3, 1) := by decide +kernel
theorem dX0_fits_94 : decode cX0_fits 94 = .ok (.bipush 48, 2) := by decide +kernel
theorem dX0_fits_96 : decode cX0_fits 96 = .ok (.bipush 53, 2) := by decide +kernel
theorem dX0_fits_98 : decode cX0_fits 98 = .ok (.invokestatic 51, 3) := by decide +kernel
theorem dX0_fits_101 : decode cX0_fits 101 = .ok (.goto 9, 3) := by decide +kernel
theorem dX0_fits_104 : decode cX0_fits 104 = .ok (.aload_n 0, 1) := by decide +kernel
theorem dX0_fits_105 : decode cX0_fits 105 = .ok (.iload_n 1, 1) := by decide +kernel
theorem dX0_fits_106 : decode cX0_fits 106 = .ok (.iload_n 2, 1) := by decide +kernel
theorem dX0_fits_107 : decode cX0_fits 107 = .ok (.invokevirtual 55, 3) := by decide +kernel
theorem dX0_fits_110 : decode cX0_fits 110 = .ok (.ireturn, 1) := by decide +kernel
theorem dX0_fits_111 : decode cX0_fits 111 = .ok (.iload 4, 2) := by decide +kernel
theorem dX0_fits_113 : decode cX0_fits 113 = .ok (.iconst 1, 1) := by decide +kernel
theorem dX0_fits_114 : decode cX0_fits 114 = .ok (.if_icmp .ne 14, 3) := by decide +kernel
theorem dX0_fits_117 : decode cX0_fits 117 = .ok (.iload_n 3, 1) := by decide +kernel
theorem dX0_fits_118 : decode cX0_fits 118 = .ok (.bipush 48, 2) := by decide +kernel
theorem dX0_fits_120 : decode cX0_fits 120 = .ok (.bipush 51, 2) := by decide +kernel
theorem dX0_fits_122 : decode cX0_fits 122 = .ok (.invokestatic 51, 3) := by decide +kernel
theorem dX0_fits_125 : decode cX0_fits 125 = .ok (.goto 9, 3) := by decide +kernel
theorem dX0_fits_128 : decode cX0_fits 128 = .ok (.aload_n 0, 1) := by decide +kernel
theorem dX0_fits_129 : decode cX0_fits 129 = .ok (.iload_n 1, 1) := by decide +kernel
theorem dX0_fits_130 : decode cX0_fits 130 = .ok (.iload_n 2, 1) := by decide +kernel
theorem dX0_fits_131 : decode cX0_fits 131 = .ok (.invokevirtual 55, 3) := by decide +kernel
theorem dX0_fits_134 : decode cX0_fits 134 = .ok (.ireturn, 1) := by decide +kernel
theorem dX0_fits_135 : decode cX0_fits 135 = .ok (.iload 4, 2) := by decide +kernel
theorem dX0_fits_137 : decode cX0_fits 137 = .ok (.iconst 1, 1) := by decide +kernel
theorem dX0_fits_138 : decode cX0_fits 138 = .ok (.if_icmp .ne 18, 3) := by decide +kernel
theorem dX0_fits_141 : decode cX0_fits 141 = .ok (.iload_n 3, 1) := by decide +kernel
theorem dX0_fits_142 : decode cX0_fits 142 = .ok (.bipush 49, 2) := by decide +kernel
theorem dX0_fits_144 : decode cX0_fits 144 = .ok (.bipush 57, 2) := by decide +kernel
theorem dX0_fits_146 : decode cX0_fits 146 = .ok (.invokestatic 51, 3) := by decide +kernel
theorem dX0_fits_149 : decode cX0_fits 149 = .ok (.ifCond .eq 7, 3) := by decide +kernel
theorem dX0_fits_152 : decode cX0_fits 152 = .ok (.iconst 1, 1) := by decide +kernel
theorem dX0_fits_153 : decode cX0_fits 153 = .ok (.goto 4, 3) := by decide +kernel
theorem dX0_fits_156 : decode cX0_fits 156 = .ok (.iconst 0, 1) := by decide +kernel
theorem dX0_fits_157 : decode cX0_fits 157 = .ok (.ireturn, 1) := by decide +kernel
theorem dX0_fits_158 : decode cX0_fits 158 = .ok (.iload 4, 2) := by decide +kernel
theorem dX0_fits_160 : decode cX0_fits 160 = .ok (.iconst 1, 1) := by decide +kernel
theorem dX0_fits_161 : decode cX0_fits 161 = .ok (.if_icmp .ne 18, 3) := by decide +kernel
theorem dX0_fits_164 : decode cX0_fits 164 = .ok (.iload_n 3, 1) := by decide +kernel
theorem dX0_fits_165 : decode cX0_fits 165 = .ok (.bipush 48, 2) := by decide +kernel
theorem dX0_fits_167 : decode cX0_fits 167 = .ok (.bipush 55, 2) := by decide +kernel
theorem dX0_fits_169 : decode cX0_fits 169 = .ok (.invokestatic 51, 3) := by decide +kernel
theorem dX0_fits_172 : decode cX0_fits 172 = .ok (.ifCond .eq 7, 3) := by decide +kernel
theorem dX0_fits_175 : decode cX0_fits 175 = .ok (.iconst 1, 1) := by decide +kernel
theorem dX0_fits_176 : decode cX0_fits 176 = .ok (.goto 4, 3) := by decide +kernel
theorem dX0_fits_179 : decode cX0_fits 179 = .ok (.iconst 0, 1) := by decide +kernel
theorem dX0_fits_180 : decode cX0_fits 180 = .ok (.ireturn, 1) := by decide +kernel
theorem dX0_isOrderSign_0 : decode cX0_isOrderSign 0 = .ok (.iload_n 0, 1) := by decide +kernel
theorem dX0_isOrderSign_1 : decode cX0_isOrderSign 1 = .ok (.tableswitch 97 97 116 #[95, 97, 95, 97, 97, 97, 97, 97, 97, 97, 97, 97, 97, 97, 95, 97, 97, 95, 95, 95], 95) := by decide +kernel
theorem dX0_isOrderSign_96 : decode cX0_isOrderSign 96 = .ok (.iconst 1, 1) := by decide +kernel
theorem dX0_isOrderSign_97 : decode cX0_isOrderSign 97 = .ok (.ireturn, 1) := by decide +kernel
theorem dX0_isOrderSign_98 : decode cX0_isOrderSign 98 = .ok (.iconst 0, 1) := by decide +kernel
theorem dX0_isOrderSign_99 : decode cX0_isOrderSign 99 = .ok (.ireturn, 1) := by decide +kernel
theorem dX0_fitsLay_0 : decode cX0_fitsLay 0 = .ok (.aload_n 0, 1) := by decide +kernel
theorem dX0_fitsLay_1 : decode cX0_fitsLay 1 = .ok (.iload_n 2, 1) := by decide +kernel
theorem dX0_fitsLay_2 : decode cX0_fitsLay 2 = .ok (.invokevirtual 23, 3) := by decide +kernel
theorem dX0_fitsLay_5 : decode cX0_fitsLay 5 = .ok (.istore_n 3, 1) := by decide +kernel
theorem dX0_fitsLay_6 : decode cX0_fitsLay 6 = .ok (.iload_n 2, 1) := by decide +kernel
theorem dX0_fitsLay_7 : decode cX0_fitsLay 7 = .ok (.iload_n 1, 1) := by decide +kernel
theorem dX0_fitsLay_8 : decode cX0_fitsLay 8 = .ok (.isub, 1) := by decide +kernel
theorem dX0_fitsLay_9 : decode cX0_fitsLay 9 = .ok (.istore 4, 2) := by decide +kernel
theorem dX0_fitsLay_11 : decode cX0_fitsLay 11 = .ok (.iload 4, 2) := by decide +kernel
theorem dX0_fitsLay_13 : decode cX0_fitsLay 13 = .ok (.iconst 3, 1) := by decide +kernel
theorem dX0_fitsLay_14 : decode cX0_fitsLay 14 = .ok (.if_icmp .le 26, 3) := by decide +kernel
theorem dX0_fitsLay_17 : decode cX0_fitsLay 17 = .ok (.iload 4, 2) := by decide +kernel
theorem dX0_fitsLay_19 : decode cX0_fitsLay 19 = .ok (.iconst 4, 1) := by decide +kernel
theorem dX0_fitsLay_20 : decode cX0_fitsLay 20 = .ok (.if_icmp .ne 18, 3) := by decide +kernel
theorem dX0_fitsLay_23 : decode cX0_fitsLay 23 = .ok (.iload_n 3, 1) := by decide +kernel
theorem dX0_fitsLay_24 : decode cX0_fitsLay 24 = .ok (.bipush 48, 2) := by decide +kernel
theorem dX0_fitsLay_26 : decode cX0_fitsLay 26 = .ok (.bipush 51, 2) := by decide +kernel
theorem dX0_fitsLay_28 : decode cX0_fitsLay 28 = .ok (.invokestatic 51, 3) := by decide +kernel
theorem dX0_fitsLay_31 : decode cX0_fitsLay 31 = .ok (.ifCond .eq 7, 3) := by decide +kernel
theorem dX0_fitsLay_34 : decode cX0_fitsLay 34 = .ok (.iconst 1, 1) := by decide +kernel
theorem dX0_fitsLay_35 : decode cX0_fitsLay 35 = .ok (.goto 4, 3) := by decide +kernel
theorem dX0_fitsLay_38 : decode cX0_fitsLay 38 = .ok (.iconst 0, 1) := by decide +kernel
theorem dX0_fitsLay_39 : decode cX0_fitsLay 39 = .ok (.ireturn, 1) := by decide +kernel
theorem dX0_fitsLay_40 : decode cX0_fitsLay 40 = .ok (.iload_n 1, 1) := by decide +kernel
theorem dX0_fitsLay_41 : decode cX0_fitsLay 41 = .ok (.iconst 1, 1) := by decide +kernel
theorem dX0_fitsLay_42 : decode cX0_fitsLay 42 = .ok (.iadd, 1) := by decide +kernel
theorem dX0_fitsLay_43 : decode cX0_fitsLay 43 = .ok (.istore 5, 2) := by decide +kernel
theorem dX0_fitsLay_45 : decode cX0_fitsLay 45 = .ok (.iload 5, 2) := by decide +kernel
theorem dX0_fitsLay_47 : decode cX0_fitsLay 47 = .ok (.iload_n 2, 1) := by decide +kernel
theorem dX0_fitsLay_48 : decode cX0_fitsLay 48 = .ok (.if_icmp .ge 21, 3) := by decide +kernel
theorem dX0_fitsLay_51 : decode cX0_fitsLay 51 = .ok (.aload_n 0, 1) := by decide +kernel
theorem dX0_fitsLay_52 : decode cX0_fitsLay 52 = .ok (.iload 5, 2) := by decide +kernel
theorem dX0_fitsLay_54 : decode cX0_fitsLay 54 = .ok (.invokevirtual 23, 3) := by decide +kernel
theorem dX0_fitsLay_57 : decode cX0_fitsLay 57 = .ok (.iload_n 3, 1) := by decide +kernel
theorem dX0_fitsLay_58 : decode cX0_fitsLay 58 = .ok (.if_icmp .ne 5, 3) := by decide +kernel
theorem dX0_fitsLay_61 : decode cX0_fitsLay 61 = .ok (.iconst 0, 1) := by decide +kernel
theorem dX0_fitsLay_62 : decode cX0_fitsLay 62 = .ok (.ireturn, 1) := by decide +kernel
theorem dX0_fitsLay_63 : decode cX0_fitsLay 63 = .ok (.iinc 5 1, 3) := by decide +kernel
theorem dX0_fitsLay_66 : decode cX0_fitsLay 66 = .ok (.goto (-21), 3) := by decide +kernel
theorem dX0_fitsLay_69 : decode cX0_fitsLay 69 = .ok (.iload_n 3, 1) := by decide +kernel
theorem dX0_fitsLay_70 : decode cX0_fitsLay 70 = .ok (.bipush 48, 2) := by decide +kernel
theorem dX0_fitsLay_72 : decode cX0_fitsLay 72 = .ok (.bipush 55, 2) := by decide +kernel
theorem dX0_fitsLay_74 : decode cX0_fitsLay 74 = .ok (.invokestatic 51, 3) := by decide +kernel
theorem dX0_fitsLay_77 : decode cX0_fitsLay 77 = .ok (.ireturn, 1) := by decide +kernel
theorem dX0_fitsBody_0 : decode cX0_fitsBody 0 = .ok (.aload_n 0, 1) := by decide +kernel
theorem dX0_fitsBody_1 : decode cX0_fitsBody 1 = .ok (.iload_n 2, 1) := by decide +kernel
theorem dX0_fitsBody_2 : decode cX0_fitsBody 2 = .ok (.invokevirtual 23, 3) := by decide +kernel
theorem dX0_fitsBody_5 : decode cX0_fitsBody 5 = .ok (.istore_n 3, 1) := by decide +kernel
theorem dX0_fitsBody_6 : decode cX0_fitsBody 6 = .ok (.iload_n 2, 1) := by decide +kernel
theorem dX0_fitsBody_7 : decode cX0_fitsBody 7 = .ok (.iload_n 1, 1) := by decide +kernel
theorem dX0_fitsBody_8 : decode cX0_fitsBody 8 = .ok (.isub, 1) := by decide +kernel
theorem dX0_fitsBody_9 : decode cX0_fitsBody 9 = .ok (.istore 4, 2) := by decide +kernel
theorem dX0_fitsBody_11 : decode cX0_fitsBody 11 = .ok (.iload 4, 2) := by decide +kernel
theorem dX0_fitsBody_13 : decode cX0_fitsBody 13 = .ok (.iconst 2, 1) := by decide +kernel
theorem dX0_fitsBody_14 : decode cX0_fitsBody 14 = .ok (.if_icmp .ne 15, 3) := by decide +kernel
theorem dX0_fitsBody_17 : decode cX0_fitsBody 17 = .ok (.iload_n 3, 1) := by decide +kernel
theorem dX0_fitsBody_18 : decode cX0_fitsBody 18 = .ok (.bipush 61, 2) := by decide +kernel
theorem dX0_fitsBody_20 : decode cX0_fitsBody 20 = .ok (.if_icmp .ne 7, 3) := by decide +kernel
theorem dX0_fitsBody_23 : decode cX0_fitsBody 23 = .ok (.iconst 1, 1) := by decide +kernel
theorem dX0_fitsBody_24 : decode cX0_fitsBody 24 = .ok (.goto 4, 3) := by decide +kernel
theorem dX0_fitsBody_27 : decode cX0_fitsBody 27 = .ok (.iconst 0, 1) := by decide +kernel
theorem dX0_fitsBody_28 : decode cX0_fitsBody 28 = .ok (.ireturn, 1) := by decide +kernel
theorem dX0_fitsBody_29 : decode cX0_fitsBody 29 = .ok (.iload 4, 2) := by decide +kernel
theorem dX0_fitsBody_31 : decode cX0_fitsBody 31 = .ok (.iconst 3, 1) := by decide +kernel
theorem dX0_fitsBody_32 : decode cX0_fitsBody 32 = .ok (.if_icmp .le 19, 3) := by decide +kernel
theorem dX0_fitsBody_35 : decode cX0_fitsBody 35 = .ok (.aload_n 0, 1) := by decide +kernel
theorem dX0_fitsBody_36 : decode cX0_fitsBody 36 = .ok (.iload_n 1, 1) := by decide +kernel
theorem dX0_fitsBody_37 : decode cX0_fitsBody 37 = .ok (.iconst 3, 1) := by decide +kernel
theorem dX0_fitsBody_38 : decode cX0_fitsBody 38 = .ok (.iadd, 1) := by decide +kernel
theorem dX0_fitsBody_39 : decode cX0_fitsBody 39 = .ok (.invokevirtual 23, 3) := by decide +kernel
theorem dX0_fitsBody_42 : decode cX0_fitsBody 42 = .ok (.bipush 48, 2) := by decide +kernel
theorem dX0_fitsBody_44 : decode cX0_fitsBody 44 = .ok (.if_icmp .ne 7, 3) := by decide +kernel
theorem dX0_fitsBody_47 : decode cX0_fitsBody 47 = .ok (.iconst 1, 1) := by decide +kernel
theorem dX0_fitsBody_48 : decode cX0_fitsBody 48 = .ok (.goto 4, 3) := by decide +kernel
theorem dX0_fitsBody_51 : decode cX0_fitsBody 51 = .ok (.iconst 0, 1) := by decide +kernel
theorem dX0_fitsBody_52 : decode cX0_fitsBody 52 = .ok (.istore 5, 2) := by decide +kernel
theorem dX0_fitsBody_54 : decode cX0_fitsBody 54 = .ok (.iload 4, 2) := by decide +kernel
theorem dX0_fitsBody_56 : decode cX0_fitsBody 56 = .ok (.bipush 6, 2) := by decide +kernel
theorem dX0_fitsBody_58 : decode cX0_fitsBody 58 = .ok (.if_icmp .gt 23, 3) := by decide +kernel
theorem dX0_fitsBody_61 : decode cX0_fitsBody 61 = .ok (.iload 5, 2) := by decide +kernel
theorem dX0_fitsBody_63 : decode cX0_fitsBody 63 = .ok (.ifCond .ne 18, 3) := by decide +kernel
theorem dX0_fitsBody_66 : decode cX0_fitsBody 66 = .ok (.iload_n 3, 1) := by decide +kernel
theorem dX0_fitsBody_67 : decode cX0_fitsBody 67 = .ok (.bipush 48, 2) := by decide +kernel
theorem dX0_fitsBody_69 : decode cX0_fitsBody 69 = .ok (.bipush 57, 2) := by decide +kernel
theorem dX0_fitsBody_71 : decode cX0_fitsBody 71 = .ok (.invokestatic 51, 3) := by decide +kernel
theorem dX0_fitsBody_74 : decode cX0_fitsBody 74 = .ok (.ifCond .eq 7, 3) := by decide +kernel
theorem dX0_fitsBody_77 : decode cX0_fitsBody 77 = .ok (.iconst 1, 1) := by decide +kernel
theorem dX0_fitsBody_78 : decode cX0_fitsBody 78 = .ok (.goto 4, 3) := by decide +kernel
theorem dX0_fitsBody_81 : decode cX0_fitsBody 81 = .ok (.iconst 0, 1) := by decide +kernel
theorem dX0_fitsBody_82 : decode cX0_fitsBody 82 = .ok (.ireturn, 1) := by decide +kernel
theorem dX1_init_0 : decode cX1_init 0 = .ok (.aload_n 0, 1) := by decide +kernel
theorem dX1_init_1 : decode cX1_init 1 = .ok (.invokespecial 3, 3) := by decide +kernel
theorem dX1_init_4 : decode cX1_init 4 = .ok (.aload_n 0, 1) := by decide +kernel
theorem dX1_init_5 : decode cX1_init 5 = .ok (.bipush 6, 2) := by decide +kernel
theorem dX1_init_7 : decode cX1_init 7 = .ok (.anewarray 9, 3) := by decide +kernel
theorem dX1_init_10 : decode cX1_init 10 = .ok (.putfield 11, 3) := by decide +kernel
theorem dX1_init_13 : decode cX1_init 13 = .ok (.iconst 0, 1) := by decide +kernel
theorem dX1_init_14 : decode cX1_init 14 = .ok (.istore_n 1, 1) := by decide +kernel
theorem dX1_init_15 : decode cX1_init 15 = .ok (.iload_n 1, 1) := by decide +kernel
theorem dX1_init_16 : decode cX1_init 16 = .ok (.aload_n 0, 1) := by decide +kernel
theorem dX1_init_17 : decode cX1_init 17 = .ok (.getfield 11, 3) := by decide +kernel
theorem dX1_init_20 : decode cX1_init 20 = .ok (.arraylength, 1) := by decide +kernel
theorem dX1_init_21 : decode cX1_init 21 = .ok (.if_icmp .ge 22, 3) := by decide +kernel
theorem dX1_init_24 : decode cX1_init 24 = .ok (.aload_n 0, 1) := by decide +kernel
theorem dX1_init_25 : decode cX1_init 25 = .ok (.getfield 11, 3) := by decide +kernel
theorem dX1_init_28 : decode cX1_init 28 = .ok (.iload_n 1, 1) := by decide +kernel
theorem dX1_init_29 : decode cX1_init 29 = .ok (.new 9, 3) := by decide +kernel
theorem dX1_init_32 : decode cX1_init 32 = .ok (.dup, 1) := by decide +kernel
theorem dX1_init_33 : decode cX1_init 33 = .ok (.invokespecial 17, 3) := by decide +kernel
theorem dX1_init_36 : decode cX1_init 36 = .ok (.aastore, 1) := by decide +kernel
theorem dX1_init_37 : decode cX1_init 37 = .ok (.iinc 1 1, 3) := by decide +kernel
theorem dX1_init_40 : decode cX1_init 40 = .ok (.goto (-25), 3) := by decide +kernel
theorem dX1_init_43 : decode cX1_init 43 = .ok (.return_, 1) := by decide +kernel
theorem dX1_keep_0 : decode cX1_keep 0 = .ok (.aload_n 0, 1) := by decide +kernel
theorem dX1_keep_1 : decode cX1_keep 1 = .ok (.aload_n 0, 1) := by decide +kernel
theorem dX1_keep_2 : decode cX1_keep 2 = .ok (.getfield 18, 3) := by decide +kernel
theorem dX1_keep_5 : decode cX1_keep 5 = .ok (.invokevirtual 22, 3) := by decide +kernel
theorem dX1_keep_8 : decode cX1_keep 8 = .ok (.astore_n 2, 1) := by decide +kernel
theorem dX1_keep_9 : decode cX1_keep 9 = .ok (.aload_n 2, 1) := by decide +kernel
theorem dX1_keep_10 : decode cX1_keep 10 = .ok (.ifnull 8, 3) := by decide +kernel
theorem dX1_keep_13 : decode cX1_keep 13 = .ok (.aload_n 2, 1) := by decide +kernel
theorem dX1_keep_14 : decode cX1_keep 14 = .ok (.aload_n 1, 1) := by decide +kernel
theorem dX1_keep_15 : decode cX1_keep 15 = .ok (.invokevirtual 26, 3) := by decide +kernel
theorem dX1_keep_18 : decode cX1_keep 18 = .ok (.aload_n 0, 1) := by decide +kernel
theorem dX1_keep_19 : decode cX1_keep 19 = .ok (.aload_n 0, 1) := by decide +kernel
theorem dX1_keep_20 : decode cX1_keep 20 = .ok (.getfield 18, 3) := by decide +kernel
theorem dX1_keep_23 : decode cX1_keep 23 = .ok (.iconst 1, 1) := by decide +kernel
theorem dX1_keep_24 : decode cX1_keep 24 = .ok (.iadd, 1) := by decide +kernel
theorem dX1_keep_25 : decode cX1_keep 25 = .ok (.bipush 6, 2) := by decide +kernel
theorem dX1_keep_27 : decode cX1_keep 27 = .ok (.if_icmp .ge 12, 3) := by decide +kernel
theorem dX1_keep_30 : decode cX1_keep 30 = .ok (.aload_n 0, 1) := by decide +kernel
theorem dX1_keep_31 : decode cX1_keep 31 = .ok (.getfield 18, 3) := by decide +kernel
theorem dX1_keep_34 : decode cX1_keep 34 = .ok (.iconst 1, 1) := by decide +kernel
theorem dX1_keep_35 : decode cX1_keep 35 = .ok (.iadd, 1) := by decide +kernel
theorem dX1_keep_36 : decode cX1_keep 36 = .ok (.goto 4, 3) := by decide +kernel
theorem dX1_keep_39 : decode cX1_keep 39 = .ok (.iconst 0, 1) := by decide +kernel
theorem dX1_keep_40 : decode cX1_keep 40 = .ok (.putfield 18, 3) := by decide +kernel
theorem dX1_keep_43 : decode cX1_keep 43 = .ok (.aload_n 0, 1) := by decide +kernel
theorem dX1_keep_44 : decode cX1_keep 44 = .ok (.aload_n 0, 1) := by decide +kernel
theorem dX1_keep_45 : decode cX1_keep 45 = .ok (.getfield 30, 3) := by decide +kernel
theorem dX1_keep_48 : decode cX1_keep 48 = .ok (.iconst 1, 1) := by decide +kernel
theorem dX1_keep_49 : decode cX1_keep 49 = .ok (.iadd, 1) := by decide +kernel
theorem dX1_keep_50 : decode cX1_keep 50 = .ok (.bipush 6, 2) := by decide +kernel
theorem dX1_keep_52 : decode cX1_keep 52 = .ok (.invokestatic 33, 3) := by decide +kernel
theorem dX1_keep_55 : decode cX1_keep 55 = .ok (.putfield 30, 3) := by decide +kernel
theorem dX1_keep_58 : decode cX1_keep 58 = .ok (.return_, 1) := by decide +kernel
theorem dX1_giveBack_0 : decode cX1_giveBack 0 = .ok (.aload_n 0, 1) := by decide +kernel
theorem dX1_giveBack_1 : decode cX1_giveBack 1 = .ok (.aload_n 0, 1) := by decide +kernel
theorem dX1_giveBack_2 : decode cX1_giveBack 2 = .ok (.getfield 18, 3) := by decide +kernel
theorem dX1_giveBack_5 : decode cX1_giveBack 5 = .ok (.ifCond .le 12, 3) := by decide +kernel
theorem dX1_giveBack_8 : decode cX1_giveBack 8 = .ok (.aload_n 0, 1) := by decide +kernel
theorem dX1_giveBack_9 : decode cX1_giveBack 9 = .ok (.getfield 18, 3) := by decide +kernel
theorem dX1_giveBack_12 : decode cX1_giveBack 12 = .ok (.iconst 1, 1) := by decide +kernel
theorem dX1_giveBack_13 : decode cX1_giveBack 13 = .ok (.isub, 1) := by decide +kernel
theorem dX1_giveBack_14 : decode cX1_giveBack 14 = .ok (.goto 4, 3) := by decide +kernel
theorem dX1_giveBack_17 : decode cX1_giveBack 17 = .ok (.iconst 5, 1) := by decide +kernel
theorem dX1_giveBack_18 : decode cX1_giveBack 18 = .ok (.putfield 18, 3) := by decide +kernel
theorem dX1_giveBack_21 : decode cX1_giveBack 21 = .ok (.aload_n 0, 1) := by decide +kernel
theorem dX1_giveBack_22 : decode cX1_giveBack 22 = .ok (.dup, 1) := by decide +kernel
theorem dX1_giveBack_23 : decode cX1_giveBack 23 = .ok (.getfield 30, 3) := by decide +kernel
theorem dX1_giveBack_26 : decode cX1_giveBack 26 = .ok (.iconst 1, 1) := by decide +kernel
theorem dX1_giveBack_27 : decode cX1_giveBack 27 = .ok (.isub, 1) := by decide +kernel
theorem dX1_giveBack_28 : decode cX1_giveBack 28 = .ok (.putfield 30, 3) := by decide +kernel
theorem dX1_giveBack_31 : decode cX1_giveBack 31 = .ok (.aload_n 0, 1) := by decide +kernel
theorem dX1_giveBack_32 : decode cX1_giveBack 32 = .ok (.aload_n 0, 1) := by decide +kernel
theorem dX1_giveBack_33 : decode cX1_giveBack 33 = .ok (.getfield 18, 3) := by decide +kernel
theorem dX1_giveBack_36 : decode cX1_giveBack 36 = .ok (.invokevirtual 22, 3) := by decide +kernel
theorem dX1_giveBack_39 : decode cX1_giveBack 39 = .ok (.astore_n 2, 1) := by decide +kernel
theorem dX1_giveBack_40 : decode cX1_giveBack 40 = .ok (.aload_n 2, 1) := by decide +kernel
theorem dX1_giveBack_41 : decode cX1_giveBack 41 = .ok (.ifnull 8, 3) := by decide +kernel
theorem dX1_giveBack_44 : decode cX1_giveBack 44 = .ok (.aload_n 1, 1) := by decide +kernel
theorem dX1_giveBack_45 : decode cX1_giveBack 45 = .ok (.aload_n 2, 1) := by decide +kernel
theorem dX1_giveBack_46 : decode cX1_giveBack 46 = .ok (.invokevirtual 26, 3) := by decide +kernel
theorem dX1_giveBack_49 : decode cX1_giveBack 49 = .ok (.return_, 1) := by decide +kernel
theorem dX1_slotAt_0 : decode cX1_slotAt 0 = .ok (.iload_n 1, 1) := by decide +kernel
theorem dX1_slotAt_1 : decode cX1_slotAt 1 = .ok (.ifCond .lt 21, 3) := by decide +kernel
theorem dX1_slotAt_4 : decode cX1_slotAt 4 = .ok (.iload_n 1, 1) := by decide +kernel
theorem dX1_slotAt_5 : decode cX1_slotAt 5 = .ok (.aload_n 0, 1) := by decide +kernel
theorem dX1_slotAt_6 : decode cX1_slotAt 6 = .ok (.getfield 11, 3) := by decide +kernel
theorem dX1_slotAt_9 : decode cX1_slotAt 9 = .ok (.arraylength, 1) := by decide +kernel
theorem dX1_slotAt_10 : decode cX1_slotAt 10 = .ok (.if_icmp .ge 12, 3) := by decide +kernel
theorem dX1_slotAt_13 : decode cX1_slotAt 13 = .ok (.aload_n 0, 1) := by decide +kernel
theorem dX1_slotAt_14 : decode cX1_slotAt 14 = .ok (.getfield 11, 3) := by decide +kernel
theorem dX1_slotAt_17 : decode cX1_slotAt 17 = .ok (.iload_n 1, 1) := by decide +kernel
theorem dX1_slotAt_18 : decode cX1_slotAt 18 = .ok (.aaload, 1) := by decide +kernel
theorem dX1_slotAt_19 : decode cX1_slotAt 19 = .ok (.goto 4, 3) := by decide +kernel
theorem dX1_slotAt_22 : decode cX1_slotAt 22 = .ok (.aconst_null, 1) := by decide +kernel
theorem dX1_slotAt_23 : decode cX1_slotAt 23 = .ok (.areturn, 1) := by decide +kernel
theorem dX2_init_0 : decode cX2_init 0 = .ok (.aload_n 0, 1) := by decide +kernel
theorem dX2_init_1 : decode cX2_init 1 = .ok (.invokespecial 3, 3) := by decide +kernel
theorem dX2_init_4 : decode cX2_init 4 = .ok (.aload_n 0, 1) := by decide +kernel
theorem dX2_init_5 : decode cX2_init 5 = .ok (.sipush 255, 3) := by decide +kernel
theorem dX2_init_8 : decode cX2_init 8 = .ok (.putfield 9, 3) := by decide +kernel
theorem dX2_init_11 : decode cX2_init 11 = .ok (.aload_n 0, 1) := by decide +kernel
theorem dX2_init_12 : decode cX2_init 12 = .ok (.bipush 8, 2) := by decide +kernel
theorem dX2_init_14 : decode cX2_init 14 = .ok (.newarray .int, 2) := by decide +kernel
theorem dX2_init_16 : decode cX2_init 16 = .ok (.putfield 15, 3) := by decide +kernel
theorem dX2_init_19 : decode cX2_init 19 = .ok (.iconst 0, 1) := by decide +kernel
theorem dX2_init_20 : decode cX2_init 20 = .ok (.istore_n 1, 1) := by decide +kernel
theorem dX2_init_21 : decode cX2_init 21 = .ok (.iload_n 1, 1) := by decide +kernel
theorem dX2_init_22 : decode cX2_init 22 = .ok (.aload_n 0, 1) := by decide +kernel
theorem dX2_init_23 : decode cX2_init 23 = .ok (.getfield 15, 3) := by decide +kernel
theorem dX2_init_26 : decode cX2_init 26 = .ok (.arraylength, 1) := by decide +kernel
theorem dX2_init_27 : decode cX2_init 27 = .ok (.if_icmp .ge 22, 3) := by decide +kernel
theorem dX2_init_30 : decode cX2_init 30 = .ok (.aload_n 0, 1) := by decide +kernel
theorem dX2_init_31 : decode cX2_init 31 = .ok (.getfield 15, 3) := by decide +kernel
theorem dX2_init_34 : decode cX2_init 34 = .ok (.iload_n 1, 1) := by decide +kernel
theorem dX2_init_35 : decode cX2_init 35 = .ok (.sipush 1111, 3) := by decide +kernel
theorem dX2_init_38 : decode cX2_init 38 = .ok (.iload_n 1, 1) := by decide +kernel
theorem dX2_init_39 : decode cX2_init 39 = .ok (.iconst 1, 1) := by decide +kernel
theorem dX2_init_40 : decode cX2_init 40 = .ok (.iadd, 1) := by decide +kernel
theorem dX2_init_41 : decode cX2_init 41 = .ok (.imul, 1) := by decide +kernel
theorem dX2_init_42 : decode cX2_init 42 = .ok (.iastore, 1) := by decide +kernel
theorem dX2_init_43 : decode cX2_init 43 = .ok (.iinc 1 1, 3) := by decide +kernel
theorem dX2_init_46 : decode cX2_init 46 = .ok (.goto (-25), 3) := by decide +kernel
theorem dX2_init_49 : decode cX2_init 49 = .ok (.aload_n 0, 1) := by decide +kernel
theorem dX2_init_50 : decode cX2_init 50 = .ok (.bipush 18, 2) := by decide +kernel
theorem dX2_init_52 : decode cX2_init 52 = .ok (.newarray .int, 2) := by decide +kernel
theorem dX2_init_54 : decode cX2_init 54 = .ok (.putfield 19, 3) := by decide +kernel
theorem dX2_init_57 : decode cX2_init 57 = .ok (.aload_n 0, 1) := by decide +kernel
theorem dX2_init_58 : decode cX2_init 58 = .ok (.bipush 18, 2) := by decide +kernel
theorem dX2_init_60 : decode cX2_init 60 = .ok (.newarray .int, 2) := by decide +kernel
theorem dX2_init_62 : decode cX2_init 62 = .ok (.putfield 22, 3) := by decide +kernel
theorem dX2_init_65 : decode cX2_init 65 = .ok (.aload_n 0, 1) := by decide +kernel
theorem dX2_init_66 : decode cX2_init 66 = .ok (.bipush 6, 2) := by decide +kernel
theorem dX2_init_68 : decode cX2_init 68 = .ok (.newarray .int, 2) := by decide +kernel
theorem dX2_init_70 : decode cX2_init 70 = .ok (.putfield 25, 3) := by decide +kernel
theorem dX2_init_73 : decode cX2_init 73 = .ok (.aload_n 0, 1) := by decide +kernel
theorem dX2_init_74 : decode cX2_init 74 = .ok (.bipush 48, 2) := by decide +kernel
theorem dX2_init_76 : decode cX2_init 76 = .ok (.newarray .int, 2) := by decide +kernel
theorem dX2_init_78 : decode cX2_init 78 = .ok (.putfield 28, 3) := by decide +kernel
theorem dX2_init_81 : decode cX2_init 81 = .ok (.aload_n 0, 1) := by decide +kernel
theorem dX2_init_82 : decode cX2_init 82 = .ok (.iconst 4, 1) := by decide +kernel
theorem dX2_init_83 : decode cX2_init 83 = .ok (.newarray .int, 2) := by decide +kernel
theorem dX2_init_85 : decode cX2_init 85 = .ok (.putfield 31, 3) := by decide +kernel
theorem dX2_init_88 : decode cX2_init 88 = .ok (.aload_n 0, 1) := by decide +kernel
theorem dX2_init_89 : decode cX2_init 89 = .ok (.getfield 31, 3) := by decide +kernel
theorem dX2_init_92 : decode cX2_init 92 = .ok (.iconst (-1), 1) := by decide +kernel
theorem dX2_init_93 : decode cX2_init 93 = .ok (.invokestatic 34, 3) := by decide +kernel
theorem dX2_init_96 : decode cX2_init 96 = .ok (.aload_n 0, 1) := by decide +kernel
theorem dX2_init_97 : decode cX2_init 97 = .ok (.iconst 4, 1) := by decide +kernel
theorem dX2_init_98 : decode cX2_init 98 = .ok (.newarray .int, 2) := by decide +kernel
theorem dX2_init_100 : decode cX2_init 100 = .ok (.putfield 40, 3) := by decide +kernel
theorem dX2_init_103 : decode cX2_init 103 = .ok (.aload_n 0, 1) := by decide +kernel
theorem dX2_init_104 : decode cX2_init 104 = .ok (.getfield 40, 3) := by decide +kernel
theorem dX2_init_107 : decode cX2_init 107 = .ok (.iconst (-1), 1) := by decide +kernel
theorem dX2_init_108 : decode cX2_init 108 = .ok (.invokestatic 34, 3) := by decide +kernel
theorem dX2_init_111 : decode cX2_init 111 = .ok (.aload_n 0, 1) := by decide +kernel
theorem dX2_init_112 : decode cX2_init 112 = .ok (.iconst (-1), 1) := by decide +kernel
theorem dX2_init_113 : decode cX2_init 113 = .ok (.putfield 43, 3) := by decide +kernel
theorem dX2_init_116 : decode cX2_init 116 = .ok (.aload_n 0, 1) := by decide +kernel
theorem dX2_init_117 : decode cX2_init 117 = .ok (.iconst 5, 1) := by decide +kernel
theorem dX2_init_118 : decode cX2_init 118 = .ok (.newarray .int, 2) := by decide +kernel
theorem dX2_init_120 : decode cX2_init 120 = .ok (.putfield 46, 3) := by decide +kernel
theorem dX2_init_123 : decode cX2_init 123 = .ok (.return_, 1) := by decide +kernel
theorem dX2_become_0 : decode cX2_become 0 = .ok (.aload_n 0, 1) := by decide +kernel
theorem dX2_become_1 : decode cX2_become 1 = .ok (.aload_n 1, 1) := by decide +kernel
theorem dX2_become_2 : decode cX2_become 2 = .ok (.getfield 9, 3) := by decide +kernel
theorem dX2_become_5 : decode cX2_become 5 = .ok (.putfield 9, 3) := by decide +kernel
theorem dX2_become_8 : decode cX2_become 8 = .ok (.aload_n 1, 1) := by decide +kernel
theorem dX2_become_9 : decode cX2_become 9 = .ok (.getfield 15, 3) := by decide +kernel
theorem dX2_become_12 : decode cX2_become 12 = .ok (.aload_n 0, 1) := by decide +kernel
theorem dX2_become_13 : decode cX2_become 13 = .ok (.getfield 15, 3) := by decide +kernel
theorem dX2_become_16 : decode cX2_become 16 = .ok (.invokestatic 49, 3) := by decide +kernel
theorem dX2_become_19 : decode cX2_become 19 = .ok (.aload_n 0, 1) := by decide +kernel
theorem dX2_become_20 : decode cX2_become 20 = .ok (.aload_n 1, 1) := by decide +kernel
theorem dX2_become_21 : decode cX2_become 21 = .ok (.getfield 53, 3) := by decide +kernel
theorem dX2_become_24 : decode cX2_become 24 = .ok (.putfield 53, 3) := by decide +kernel
theorem dX2_become_27 : decode cX2_become 27 = .ok (.aload_n 1, 1) := by decide +kernel
theorem dX2_become_28 : decode cX2_become 28 = .ok (.getfield 19, 3) := by decide +kernel
theorem dX2_become_31 : decode cX2_become 31 = .ok (.aload_n 0, 1) := by decide +kernel
theorem dX2_become_32 : decode cX2_become 32 = .ok (.getfield 19, 3) := by decide +kernel
theorem dX2_become_35 : decode cX2_become 35 = .ok (.invokestatic 49, 3) := by decide +kernel
theorem dX2_become_38 : decode cX2_become 38 = .ok (.aload_n 1, 1) := by decide +kernel
theorem dX2_become_39 : decode cX2_become 39 = .ok (.getfield 22, 3) := by decide +kernel
theorem dX2_become_42 : decode cX2_become 42 = .ok (.aload_n 0, 1) := by decide +kernel
theorem dX2_become_43 : decode cX2_become 43 = .ok (.getfield 22, 3) := by decide +kernel
theorem dX2_become_46 : decode cX2_become 46 = .ok (.invokestatic 49, 3) := by decide +kernel
theorem dX2_become_49 : decode cX2_become 49 = .ok (.aload_n 1, 1) := by decide +kernel
theorem dX2_become_50 : decode cX2_become 50 = .ok (.getfield 25, 3) := by decide +kernel
theorem dX2_become_53 : decode cX2_become 53 = .ok (.aload_n 0, 1) := by decide +kernel
theorem dX2_become_54 : decode cX2_become 54 = .ok (.getfield 25, 3) := by decide +kernel
theorem dX2_become_57 : decode cX2_become 57 = .ok (.invokestatic 49, 3) := by decide +kernel
theorem dX2_become_60 : decode cX2_become 60 = .ok (.aload_n 0, 1) := by decide +kernel
theorem dX2_become_61 : decode cX2_become 61 = .ok (.aload_n 1, 1) := by decide +kernel
theorem dX2_become_62 : decode cX2_become 62 = .ok (.getfield 56, 3) := by decide +kernel
theorem dX2_become_65 : decode cX2_become 65 = .ok (.putfield 56, 3) := by decide +kernel
theorem dX2_become_68 : decode cX2_become 68 = .ok (.aload_n 1, 1) := by decide +kernel
theorem dX2_become_69 : decode cX2_become 69 = .ok (.getfield 28, 3) := by decide +kernel
theorem dX2_become_72 : decode cX2_become 72 = .ok (.aload_n 0, 1) := by decide +kernel
theorem dX2_become_73 : decode cX2_become 73 = .ok (.getfield 28, 3) := by decide +kernel
theorem dX2_become_76 : decode cX2_become 76 = .ok (.invokestatic 49, 3) := by decide +kernel
theorem dX2_become_79 : decode cX2_become 79 = .ok (.aload_n 1, 1) := by decide +kernel
theorem dX2_become_80 : decode cX2_become 80 = .ok (.getfield 31, 3) := by decide +kernel
theorem dX2_become_83 : decode cX2_become 83 = .ok (.aload_n 0, 1) := by decide +kernel
theorem dX2_become_84 : decode cX2_become 84 = .ok (.getfield 31, 3) := by decide +kernel
theorem dX2_become_87 : decode cX2_become 87 = .ok (.invokestatic 49, 3) := by decide +kernel
theorem dX2_become_90 : decode cX2_become 90 = .ok (.aload_n 1, 1) := by decide +kernel
theorem dX2_become_91 : decode cX2_become 91 = .ok (.getfield 40, 3) := by decide +kernel
theorem dX2_become_94 : decode cX2_become 94 = .ok (.aload_n 0, 1) := by decide +kernel
theorem dX2_become_95 : decode cX2_become 95 = .ok (.getfield 40, 3) := by decide +kernel
theorem dX2_become_98 : decode cX2_become 98 = .ok (.invokestatic 49, 3) := by decide +kernel
theorem dX2_become_101 : decode cX2_become 101 = .ok (.aload_n 0, 1) := by decide +kernel
theorem dX2_become_102 : decode cX2_become 102 = .ok (.aload_n 1, 1) := by decide +kernel
theorem dX2_become_103 : decode cX2_become 103 = .ok (.getfield 43, 3) := by decide +kernel
theorem dX2_become_106 : decode cX2_become 106 = .ok (.putfield 43, 3) := by decide +kernel
theorem dX2_become_109 : decode cX2_become 109 = .ok (.aload_n 1, 1) := by decide +kernel
theorem dX2_become_110 : decode cX2_become 110 = .ok (.getfield 46, 3) := by decide +kernel
theorem dX2_become_113 : decode cX2_become 113 = .ok (.aload_n 0, 1) := by decide +kernel
theorem dX2_become_114 : decode cX2_become 114 = .ok (.getfield 46, 3) := by decide +kernel
theorem dX2_become_117 : decode cX2_become 117 = .ok (.invokestatic 49, 3) := by decide +kernel
theorem dX2_become_120 : decode cX2_become 120 = .ok (.return_, 1) := by decide +kernel
theorem dX2_hasOpen_0 : decode cX2_hasOpen 0 = .ok (.aload_n 0, 1) := by decide +kernel
theorem dX2_hasOpen_1 : decode cX2_hasOpen 1 = .ok (.getfield 9, 3) := by decide +kernel
theorem dX2_hasOpen_4 : decode cX2_hasOpen 4 = .ok (.iload_n 1, 1) := by decide +kernel
theorem dX2_hasOpen_5 : decode cX2_hasOpen 5 = .ok (.invokestatic 59, 3) := by decide +kernel
theorem dX2_hasOpen_8 : decode cX2_hasOpen 8 = .ok (.ireturn, 1) := by decide +kernel
theorem dX2_turn_0 : decode cX2_turn 0 = .ok (.iconst 1, 1) := by decide +kernel
theorem dX2_turn_1 : decode cX2_turn 1 = .ok (.iload_n 1, 1) := by decide +kernel
theorem dX2_turn_2 : decode cX2_turn 2 = .ok (.ishl, 1) := by decide +kernel
theorem dX2_turn_3 : decode cX2_turn 3 = .ok (.istore_n 3, 1) := by decide +kernel
theorem dX2_turn_4 : decode cX2_turn 4 = .ok (.aload_n 0, 1) := by decide +kernel
theorem dX2_turn_5 : decode cX2_turn 5 = .ok (.iload_n 2, 1) := by decide +kernel
theorem dX2_turn_6 : decode cX2_turn 6 = .ok (.ifCond .eq 12, 3) := by decide +kernel
theorem dX2_turn_9 : decode cX2_turn 9 = .ok (.aload_n 0, 1) := by decide +kernel
theorem dX2_turn_10 : decode cX2_turn 10 = .ok (.getfield 9, 3) := by decide +kernel
theorem dX2_turn_13 : decode cX2_turn 13 = .ok (.iload_n 3, 1) := by decide +kernel
theorem dX2_turn_14 : decode cX2_turn 14 = .ok (.ior, 1) := by decide +kernel
theorem dX2_turn_15 : decode cX2_turn 15 = .ok (.goto 11, 3) := by decide +kernel
theorem dX2_turn_18 : decode cX2_turn 18 = .ok (.aload_n 0, 1) := by decide +kernel
theorem dX2_turn_19 : decode cX2_turn 19 = .ok (.getfield 9, 3) := by decide +kernel
theorem dX2_turn_22 : decode cX2_turn 22 = .ok (.iload_n 3, 1) := by decide +kernel
theorem dX2_turn_23 : decode cX2_turn 23 = .ok (.iconst (-1), 1) := by decide +kernel
theorem dX2_turn_24 : decode cX2_turn 24 = .ok (.ixor, 1) := by decide +kernel
theorem dX2_turn_25 : decode cX2_turn 25 = .ok (.iand, 1) := by decide +kernel
theorem dX2_turn_26 : decode cX2_turn 26 = .ok (.putfield 9, 3) := by decide +kernel
theorem dX2_turn_29 : decode cX2_turn 29 = .ok (.return_, 1) := by decide +kernel
theorem dX2_isInMask_0 : decode cX2_isInMask 0 = .ok (.iload_n 0, 1) := by decide +kernel
theorem dX2_isInMask_1 : decode cX2_isInMask 1 = .ok (.iload_n 1, 1) := by decide +kernel
theorem dX2_isInMask_2 : decode cX2_isInMask 2 = .ok (.ishr, 1) := by decide +kernel
theorem dX2_isInMask_3 : decode cX2_isInMask 3 = .ok (.iconst 1, 1) := by decide +kernel
theorem dX2_isInMask_4 : decode cX2_isInMask 4 = .ok (.iand, 1) := by decide +kernel
theorem dX2_isInMask_5 : decode cX2_isInMask 5 = .ok (.ifCond .eq 7, 3) := by decide +kernel
theorem dX2_isInMask_8 : decode cX2_isInMask 8 = .ok (.iconst 1, 1) := by decide +kernel
theorem dX2_isInMask_9 : decode cX2_isInMask 9 = .ok (.goto 4, 3) := by decide +kernel
theorem dX2_isInMask_12 : decode cX2_isInMask 12 = .ok (.iconst 0, 1) := by decide +kernel
theorem dX2_isInMask_13 : decode cX2_isInMask 13 = .ok (.ireturn, 1) := by decide +kernel
theorem dX2_addRoad_0 : decode cX2_addRoad 0 = .ok (.aload_n 0, 1) := by decide +kernel
theorem dX2_addRoad_1 : decode cX2_addRoad 1 = .ok (.getfield 53, 3) := by decide +kernel
theorem dX2_addRoad_4 : decode cX2_addRoad 4 = .ok (.istore 5, 2) := by decide +kernel
theorem dX2_addRoad_6 : decode cX2_addRoad 6 = .ok (.aload_n 0, 1) := by decide +kernel
theorem dX2_addRoad_7 : decode cX2_addRoad 7 = .ok (.iload 5, 2) := by decide +kernel
theorem dX2_addRoad_9 : decode cX2_addRoad 9 = .ok (.iconst 1, 1) := by decide +kernel
theorem dX2_addRoad_10 : decode cX2_addRoad 10 = .ok (.iload_n 1, 1) := by decide +kernel
theorem dX2_addRoad_11 : decode cX2_addRoad 11 = .ok (.invokevirtual 63, 3) := by decide +kernel
theorem dX2_addRoad_14 : decode cX2_addRoad 14 = .ok (.aload_n 0, 1) := by decide +kernel
theorem dX2_addRoad_15 : decode cX2_addRoad 15 = .ok (.iload 5, 2) := by decide +kernel
theorem dX2_addRoad_17 : decode cX2_addRoad 17 = .ok (.iconst 2, 1) := by decide +kernel
theorem dX2_addRoad_18 : decode cX2_addRoad 18 = .ok (.iload_n 2, 1) := by decide +kernel
theorem dX2_addRoad_19 : decode cX2_addRoad 19 = .ok (.invokevirtual 63, 3) := by decide +kernel
theorem dX2_addRoad_22 : decode cX2_addRoad 22 = .ok (.aload_n 0, 1) := by decide +kernel
theorem dX2_addRoad_23 : decode cX2_addRoad 23 = .ok (.iload 5, 2) := by decide +kernel
theorem dX2_addRoad_25 : decode cX2_addRoad 25 = .ok (.iconst 3, 1) := by decide +kernel
theorem dX2_addRoad_26 : decode cX2_addRoad 26 = .ok (.iload_n 3, 1) := by decide +kernel
theorem dX2_addRoad_27 : decode cX2_addRoad 27 = .ok (.invokevirtual 63, 3) := by decide +kernel
theorem dX2_addRoad_30 : decode cX2_addRoad 30 = .ok (.aload_n 0, 1) := by decide +kernel
theorem dX2_addRoad_31 : decode cX2_addRoad 31 = .ok (.getfield 25, 3) := by decide +kernel
theorem dX2_addRoad_34 : decode cX2_addRoad 34 = .ok (.iload 5, 2) := by decide +kernel
theorem dX2_addRoad_36 : decode cX2_addRoad 36 = .ok (.iload 4, 2) := by decide +kernel
theorem dX2_addRoad_38 : decode cX2_addRoad 38 = .ok (.invokestatic 67, 3) := by decide +kernel
theorem dX2_addRoad_41 : decode cX2_addRoad 41 = .ok (.aload_n 0, 1) := by decide +kernel
theorem dX2_addRoad_42 : decode cX2_addRoad 42 = .ok (.dup, 1) := by decide +kernel
theorem dX2_addRoad_43 : decode cX2_addRoad 43 = .ok (.getfield 53, 3) := by decide +kernel
theorem dX2_addRoad_46 : decode cX2_addRoad 46 = .ok (.iconst 1, 1) := by decide +kernel
theorem dX2_addRoad_47 : decode cX2_addRoad 47 = .ok (.iadd, 1) := by decide +kernel
theorem dX2_addRoad_48 : decode cX2_addRoad 48 = .ok (.putfield 53, 3) := by decide +kernel
theorem dX2_addRoad_51 : decode cX2_addRoad 51 = .ok (.iload 5, 2) := by decide +kernel
theorem dX2_addRoad_53 : decode cX2_addRoad 53 = .ok (.ireturn, 1) := by decide +kernel
theorem dX2_putInn_0 : decode cX2_putInn 0 = .ok (.aload_n 0, 1) := by decide +kernel
theorem dX2_putInn_1 : decode cX2_putInn 1 = .ok (.getfield 19, 3) := by decide +kernel
theorem dX2_putInn_4 : decode cX2_putInn 4 = .ok (.iconst 3, 1) := by decide +kernel
theorem dX2_putInn_5 : decode cX2_putInn 5 = .ok (.iload_n 1, 1) := by decide +kernel
theorem dX2_putInn_6 : decode cX2_putInn 6 = .ok (.imul, 1) := by decide +kernel
theorem dX2_putInn_7 : decode cX2_putInn 7 = .ok (.iload_n 2, 1) := by decide +kernel
theorem dX2_putInn_8 : decode cX2_putInn 8 = .ok (.iadd, 1) := by decide +kernel
theorem dX2_putInn_9 : decode cX2_putInn 9 = .ok (.iconst 1, 1) := by decide +kernel
theorem dX2_putInn_10 : decode cX2_putInn 10 = .ok (.isub, 1) := by decide +kernel
theorem dX2_putInn_11 : decode cX2_putInn 11 = .ok (.iload_n 3, 1) := by decide +kernel
theorem dX2_putInn_12 : decode cX2_putInn 12 = .ok (.invokestatic 67, 3) := by decide +kernel
theorem dX2_putInn_15 : decode cX2_putInn 15 = .ok (.aload_n 0, 1) := by decide +kernel
theorem dX2_putInn_16 : decode cX2_putInn 16 = .ok (.getfield 22, 3) := by decide +kernel
theorem dX2_putInn_19 : decode cX2_putInn 19 = .ok (.iconst 3, 1) := by decide +kernel
theorem dX2_putInn_20 : decode cX2_putInn 20 = .ok (.iload_n 1, 1) := by decide +kernel
theorem dX2_putInn_21 : decode cX2_putInn 21 = .ok (.imul, 1) := by decide +kernel
theorem dX2_putInn_22 : decode cX2_putInn 22 = .ok (.iload_n 2, 1) := by decide +kernel
theorem dX2_putInn_23 : decode cX2_putInn 23 = .ok (.iadd, 1) := by decide +kernel
theorem dX2_putInn_24 : decode cX2_putInn 24 = .ok (.iconst 1, 1) := by decide +kernel
theorem dX2_putInn_25 : decode cX2_putInn 25 = .ok (.isub, 1) := by decide +kernel
theorem dX2_putInn_26 : decode cX2_putInn 26 = .ok (.aload_n 0, 1) := by decide +kernel
theorem dX2_putInn_27 : decode cX2_putInn 27 = .ok (.getfield 15, 3) := by decide +kernel
theorem dX2_putInn_30 : decode cX2_putInn 30 = .ok (.iload_n 3, 1) := by decide +kernel
theorem dX2_putInn_31 : decode cX2_putInn 31 = .ok (.invokestatic 71, 3) := by decide +kernel
theorem dX2_putInn_34 : decode cX2_putInn 34 = .ok (.invokestatic 67, 3) := by decide +kernel
theorem dX2_putInn_37 : decode cX2_putInn 37 = .ok (.return_, 1) := by decide +kernel
theorem dX2_removeLastRoad_0 : decode cX2_removeLastRoad 0 = .ok (.aload_n 0, 1) := by decide +kernel
theorem dX2_removeLastRoad_1 : decode cX2_removeLastRoad 1 = .ok (.dup, 1) := by decide +kernel
theorem dX2_removeLastRoad_2 : decode cX2_removeLastRoad 2 = .ok (.getfield 53, 3) := by decide +kernel
theorem dX2_removeLastRoad_5 : decode cX2_removeLastRoad 5 = .ok (.iconst 1, 1) := by decide +kernel
theorem dX2_removeLastRoad_6 : decode cX2_removeLastRoad 6 = .ok (.isub, 1) := by decide +kernel
theorem dX2_removeLastRoad_7 : decode cX2_removeLastRoad 7 = .ok (.putfield 53, 3) := by decide +kernel
theorem dX2_removeLastRoad_10 : decode cX2_removeLastRoad 10 = .ok (.iconst 0, 1) := by decide +kernel
theorem dX2_removeLastRoad_11 : decode cX2_removeLastRoad 11 = .ok (.istore_n 1, 1) := by decide +kernel
theorem dX2_removeLastRoad_12 : decode cX2_removeLastRoad 12 = .ok (.iload_n 1, 1) := by decide +kernel
theorem dX2_removeLastRoad_13 : decode cX2_removeLastRoad 13 = .ok (.iconst 4, 1) := by decide +kernel
theorem dX2_removeLastRoad_14 : decode cX2_removeLastRoad 14 = .ok (.if_icmp .ge 33, 3) := by decide +kernel
theorem dX2_removeLastRoad_17 : decode cX2_removeLastRoad 17 = .ok (.aload_n 0, 1) := by decide +kernel
theorem dX2_removeLastRoad_18 : decode cX2_removeLastRoad 18 = .ok (.getfield 40, 3) := by decide +kernel
theorem dX2_removeLastRoad_21 : decode cX2_removeLastRoad 21 = .ok (.iload_n 1, 1) := by decide +kernel
theorem dX2_removeLastRoad_22 : decode cX2_removeLastRoad 22 = .ok (.invokestatic 71, 3) := by decide +kernel
theorem dX2_removeLastRoad_25 : decode cX2_removeLastRoad 25 = .ok (.aload_n 0, 1) := by decide +kernel
theorem dX2_removeLastRoad_26 : decode cX2_removeLastRoad 26 = .ok (.getfield 53, 3) := by decide +kernel
theorem dX2_removeLastRoad_29 : decode cX2_removeLastRoad 29 = .ok (.if_icmp .ne 12, 3) := by decide +kernel
theorem dX2_removeLastRoad_32 : decode cX2_removeLastRoad 32 = .ok (.aload_n 0, 1) := by decide +kernel
theorem dX2_removeLastRoad_33 : decode cX2_removeLastRoad 33 = .ok (.getfield 40, 3) := by decide +kernel
theorem dX2_removeLastRoad_36 : decode cX2_removeLastRoad 36 = .ok (.iload_n 1, 1) := by decide +kernel
theorem dX2_removeLastRoad_37 : decode cX2_removeLastRoad 37 = .ok (.iconst (-1), 1) := by decide +kernel
theorem dX2_removeLastRoad_38 : decode cX2_removeLastRoad 38 = .ok (.invokestatic 67, 3) := by decide +kernel
theorem dX2_removeLastRoad_41 : decode cX2_removeLastRoad 41 = .ok (.iinc 1 1, 3) := by decide +kernel
theorem dX2_removeLastRoad_44 : decode cX2_removeLastRoad 44 = .ok (.goto (-32), 3) := by decide +kernel
theorem dX2_removeLastRoad_47 : decode cX2_removeLastRoad 47 = .ok (.return_, 1) := by decide +kernel
theorem dX2_isUsed_0 : decode cX2_isUsed 0 = .ok (.iconst 0, 1) := by decide +kernel
theorem dX2_isUsed_1 : decode cX2_isUsed 1 = .ok (.istore_n 2, 1) := by decide +kernel
theorem dX2_isUsed_2 : decode cX2_isUsed 2 = .ok (.iload_n 2, 1) := by decide +kernel
theorem dX2_isUsed_3 : decode cX2_isUsed 3 = .ok (.aload_n 0, 1) := by decide +kernel
theorem dX2_isUsed_4 : decode cX2_isUsed 4 = .ok (.getfield 56, 3) := by decide +kernel
theorem dX2_isUsed_7 : decode cX2_isUsed 7 = .ok (.if_icmp .ge 21, 3) := by decide +kernel
theorem dX2_isUsed_10 : decode cX2_isUsed 10 = .ok (.aload_n 0, 1) := by decide +kernel
theorem dX2_isUsed_11 : decode cX2_isUsed 11 = .ok (.iload_n 2, 1) := by decide +kernel
theorem dX2_isUsed_12 : decode cX2_isUsed 12 = .ok (.iconst 0, 1) := by decide +kernel
theorem dX2_isUsed_13 : decode cX2_isUsed 13 = .ok (.invokevirtual 75, 3) := by decide +kernel
theorem dX2_isUsed_16 : decode cX2_isUsed 16 = .ok (.iload_n 1, 1) := by decide +kernel
theorem dX2_isUsed_17 : decode cX2_isUsed 17 = .ok (.if_icmp .ne 5, 3) := by decide +kernel
theorem dX2_isUsed_20 : decode cX2_isUsed 20 = .ok (.iconst 1, 1) := by decide +kernel
theorem dX2_isUsed_21 : decode cX2_isUsed 21 = .ok (.ireturn, 1) := by decide +kernel
theorem dX2_isUsed_22 : decode cX2_isUsed 22 = .ok (.iinc 2 1, 3) := by decide +kernel
theorem dX2_isUsed_25 : decode cX2_isUsed 25 = .ok (.goto (-23), 3) := by decide +kernel
theorem dX2_isUsed_28 : decode cX2_isUsed 28 = .ok (.iconst 0, 1) := by decide +kernel
theorem dX2_isUsed_29 : decode cX2_isUsed 29 = .ok (.ireturn, 1) := by decide +kernel
theorem dX2_innAt_0 : decode cX2_innAt 0 = .ok (.aload_n 0, 1) := by decide +kernel
theorem dX2_innAt_1 : decode cX2_innAt 1 = .ok (.getfield 19, 3) := by decide +kernel
theorem dX2_innAt_4 : decode cX2_innAt 4 = .ok (.iconst 3, 1) := by decide +kernel
theorem dX2_innAt_5 : decode cX2_innAt 5 = .ok (.iload_n 1, 1) := by decide +kernel
theorem dX2_innAt_6 : decode cX2_innAt 6 = .ok (.imul, 1) := by decide +kernel
theorem dX2_innAt_7 : decode cX2_innAt 7 = .ok (.iload_n 2, 1) := by decide +kernel
theorem dX2_innAt_8 : decode cX2_innAt 8 = .ok (.iadd, 1) := by decide +kernel
theorem dX2_innAt_9 : decode cX2_innAt 9 = .ok (.iconst 1, 1) := by decide +kernel
theorem dX2_innAt_10 : decode cX2_innAt 10 = .ok (.isub, 1) := by decide +kernel
theorem dX2_innAt_11 : decode cX2_innAt 11 = .ok (.invokestatic 71, 3) := by decide +kernel
theorem dX2_innAt_14 : decode cX2_innAt 14 = .ok (.ireturn, 1) := by decide +kernel
theorem dX2_keyAt_0 : decode cX2_keyAt 0 = .ok (.aload_n 0, 1) := by decide +kernel
theorem dX2_keyAt_1 : decode cX2_keyAt 1 = .ok (.getfield 22, 3) := by decide +kernel
theorem dX2_keyAt_4 : decode cX2_keyAt 4 = .ok (.iconst 3, 1) := by decide +kernel
theorem dX2_keyAt_5 : decode cX2_keyAt 5 = .ok (.iload_n 1, 1) := by decide +kernel
theorem dX2_keyAt_6 : decode cX2_keyAt 6 = .ok (.imul, 1) := by decide +kernel
theorem dX2_keyAt_7 : decode cX2_keyAt 7 = .ok (.iload_n 2, 1) := by decide +kernel
theorem dX2_keyAt_8 : decode cX2_keyAt 8 = .ok (.iadd, 1) := by decide +kernel
theorem dX2_keyAt_9 : decode cX2_keyAt 9 = .ok (.iconst 1, 1) := by decide +kernel
theorem dX2_keyAt_10 : decode cX2_keyAt 10 = .ok (.isub, 1) := by decide +kernel
theorem dX2_keyAt_11 : decode cX2_keyAt 11 = .ok (.invokestatic 71, 3) := by decide +kernel
theorem dX2_keyAt_14 : decode cX2_keyAt 14 = .ok (.ireturn, 1) := by decide +kernel
theorem dX2_placeOn_0 : decode cX2_placeOn 0 = .ok (.iconst 1, 1) := by decide +kernel
theorem dX2_placeOn_1 : decode cX2_placeOn 1 = .ok (.istore_n 3, 1) := by decide +kernel
theorem dX2_placeOn_2 : decode cX2_placeOn 2 = .ok (.iload_n 3, 1) := by decide +kernel
theorem dX2_placeOn_3 : decode cX2_placeOn 3 = .ok (.iconst 3, 1) := by decide +kernel
theorem dX2_placeOn_4 : decode cX2_placeOn 4 = .ok (.if_icmp .gt 21, 3) := by decide +kernel
theorem dX2_placeOn_7 : decode cX2_placeOn 7 = .ok (.aload_n 0, 1) := by decide +kernel
theorem dX2_placeOn_8 : decode cX2_placeOn 8 = .ok (.iload_n 1, 1) := by decide +kernel
theorem dX2_placeOn_9 : decode cX2_placeOn 9 = .ok (.iload_n 3, 1) := by decide +kernel
theorem dX2_placeOn_10 : decode cX2_placeOn 10 = .ok (.invokevirtual 79, 3) := by decide +kernel
theorem dX2_placeOn_13 : decode cX2_placeOn 13 = .ok (.iload_n 2, 1) := by decide +kernel
theorem dX2_placeOn_14 : decode cX2_placeOn 14 = .ok (.if_icmp .ne 5, 3) := by decide +kernel
theorem dX2_placeOn_17 : decode cX2_placeOn 17 = .ok (.iload_n 3, 1) := by decide +kernel
theorem dX2_placeOn_18 : decode cX2_placeOn 18 = .ok (.ireturn, 1) := by decide +kernel
theorem dX2_placeOn_19 : decode cX2_placeOn 19 = .ok (.iinc 3 1, 3) := by decide +kernel
theorem dX2_placeOn_22 : decode cX2_placeOn 22 = .ok (.goto (-20), 3) := by decide +kernel
theorem dX2_placeOn_25 : decode cX2_placeOn 25 = .ok (.iconst (-1), 1) := by decide +kernel
theorem dX2_placeOn_26 : decode cX2_placeOn 26 = .ok (.ireturn, 1) := by decide +kernel
theorem dX2_allOpenOn_0 : decode cX2_allOpenOn 0 = .ok (.iconst 1, 1) := by decide +kernel
theorem dX2_allOpenOn_1 : decode cX2_allOpenOn 1 = .ok (.istore_n 2, 1) := by decide +kernel
theorem dX2_allOpenOn_2 : decode cX2_allOpenOn 2 = .ok (.iload_n 2, 1) := by decide +kernel
theorem dX2_allOpenOn_3 : decode cX2_allOpenOn 3 = .ok (.iconst 3, 1) := by decide +kernel
theorem dX2_allOpenOn_4 : decode cX2_allOpenOn 4 = .ok (.if_icmp .gt 24, 3) := by decide +kernel
theorem dX2_allOpenOn_7 : decode cX2_allOpenOn 7 = .ok (.aload_n 0, 1) := by decide +kernel
theorem dX2_allOpenOn_8 : decode cX2_allOpenOn 8 = .ok (.aload_n 0, 1) := by decide +kernel
theorem dX2_allOpenOn_9 : decode cX2_allOpenOn 9 = .ok (.iload_n 1, 1) := by decide +kernel
theorem dX2_allOpenOn_10 : decode cX2_allOpenOn 10 = .ok (.iload_n 2, 1) := by decide +kernel
theorem dX2_allOpenOn_11 : decode cX2_allOpenOn 11 = .ok (.invokevirtual 79, 3) := by decide +kernel
theorem dX2_allOpenOn_14 : decode cX2_allOpenOn 14 = .ok (.invokevirtual 82, 3) := by decide +kernel
theorem dX2_allOpenOn_17 : decode cX2_allOpenOn 17 = .ok (.ifCond .ne 5, 3) := by decide +kernel
theorem dX2_allOpenOn_20 : decode cX2_allOpenOn 20 = .ok (.iconst 0, 1) := by decide +kernel
theorem dX2_allOpenOn_21 : decode cX2_allOpenOn 21 = .ok (.ireturn, 1) := by decide +kernel
theorem dX2_allOpenOn_22 : decode cX2_allOpenOn 22 = .ok (.iinc 2 1, 3) := by decide +kernel
theorem dX2_allOpenOn_25 : decode cX2_allOpenOn 25 = .ok (.goto (-23), 3) := by decide +kernel
theorem dX2_allOpenOn_28 : decode cX2_allOpenOn 28 = .ok (.iconst 1, 1) := by decide +kernel
theorem dX2_allOpenOn_29 : decode cX2_allOpenOn 29 = .ok (.ireturn, 1) := by decide +kernel
theorem dX2_seenBeside_0 : decode cX2_seenBeside 0 = .ok (.aload_n 0, 1) := by decide +kernel
theorem dX2_seenBeside_1 : decode cX2_seenBeside 1 = .ok (.iload_n 2, 1) := by decide +kernel
theorem dX2_seenBeside_2 : decode cX2_seenBeside 2 = .ok (.iload_n 1, 1) := by decide +kernel
theorem dX2_seenBeside_3 : decode cX2_seenBeside 3 = .ok (.invokevirtual 86, 3) := by decide +kernel
theorem dX2_seenBeside_6 : decode cX2_seenBeside 6 = .ok (.istore 4, 2) := by decide +kernel
theorem dX2_seenBeside_8 : decode cX2_seenBeside 8 = .ok (.iload 4, 2) := by decide +kernel
theorem dX2_seenBeside_10 : decode cX2_seenBeside 10 = .ok (.iconst (-1), 1) := by decide +kernel
theorem dX2_seenBeside_11 : decode cX2_seenBeside 11 = .ok (.if_icmp .ne 5, 3) := by decide +kernel
theorem dX2_seenBeside_14 : decode cX2_seenBeside 14 = .ok (.iconst (-1), 1) := by decide +kernel
theorem dX2_seenBeside_15 : decode cX2_seenBeside 15 = .ok (.ireturn, 1) := by decide +kernel
theorem dX2_seenBeside_16 : decode cX2_seenBeside 16 = .ok (.iload_n 3, 1) := by decide +kernel
theorem dX2_seenBeside_17 : decode cX2_seenBeside 17 = .ok (.ifCond .ne 10, 3) := by decide +kernel
theorem dX2_seenBeside_20 : decode cX2_seenBeside 20 = .ok (.iload 4, 2) := by decide +kernel
theorem dX2_seenBeside_22 : decode cX2_seenBeside 22 = .ok (.iconst 1, 1) := by decide +kernel
theorem dX2_seenBeside_23 : decode cX2_seenBeside 23 = .ok (.isub, 1) := by decide +kernel
theorem dX2_seenBeside_24 : decode cX2_seenBeside 24 = .ok (.goto 7, 3) := by decide +kernel
theorem dX2_seenBeside_27 : decode cX2_seenBeside 27 = .ok (.iload 4, 2) := by decide +kernel
theorem dX2_seenBeside_29 : decode cX2_seenBeside 29 = .ok (.iconst 1, 1) := by decide +kernel
theorem dX2_seenBeside_30 : decode cX2_seenBeside 30 = .ok (.iadd, 1) := by decide +kernel
theorem dX2_seenBeside_31 : decode cX2_seenBeside 31 = .ok (.istore 5, 2) := by decide +kernel
theorem dX2_seenBeside_33 : decode cX2_seenBeside 33 = .ok (.iload 5, 2) := by decide +kernel
theorem dX2_seenBeside_35 : decode cX2_seenBeside 35 = .ok (.ifCond .ne 6, 3) := by decide +kernel
theorem dX2_seenBeside_38 : decode cX2_seenBeside 38 = .ok (.bipush 8, 2) := by decide +kernel
theorem dX2_seenBeside_40 : decode cX2_seenBeside 40 = .ok (.ireturn, 1) := by decide +kernel
theorem dX2_seenBeside_41 : decode cX2_seenBeside 41 = .ok (.iload 5, 2) := by decide +kernel
theorem dX2_seenBeside_43 : decode cX2_seenBeside 43 = .ok (.iconst 4, 1) := by decide +kernel
theorem dX2_seenBeside_44 : decode cX2_seenBeside 44 = .ok (.if_icmp .ne 15, 3) := by decide +kernel
theorem dX2_seenBeside_47 : decode cX2_seenBeside 47 = .ok (.bipush 10, 2) := by decide +kernel
theorem dX2_seenBeside_49 : decode cX2_seenBeside 49 = .ok (.aload_n 0, 1) := by decide +kernel
theorem dX2_seenBeside_50 : decode cX2_seenBeside 50 = .ok (.getfield 25, 3) := by decide +kernel
theorem dX2_seenBeside_53 : decode cX2_seenBeside 53 = .ok (.iload_n 2, 1) := by decide +kernel
theorem dX2_seenBeside_54 : decode cX2_seenBeside 54 = .ok (.invokestatic 71, 3) := by decide +kernel
theorem dX2_seenBeside_57 : decode cX2_seenBeside 57 = .ok (.iadd, 1) := by decide +kernel
theorem dX2_seenBeside_58 : decode cX2_seenBeside 58 = .ok (.ireturn, 1) := by decide +kernel
theorem dX2_seenBeside_59 : decode cX2_seenBeside 59 = .ok (.aload_n 0, 1) := by decide +kernel
theorem dX2_seenBeside_60 : decode cX2_seenBeside 60 = .ok (.iload_n 2, 1) := by decide +kernel
theorem dX2_seenBeside_61 : decode cX2_seenBeside 61 = .ok (.iload 5, 2) := by decide +kernel
theorem dX2_seenBeside_63 : decode cX2_seenBeside 63 = .ok (.invokevirtual 79, 3) := by decide +kernel
theorem dX2_seenBeside_66 : decode cX2_seenBeside 66 = .ok (.ireturn, 1) := by decide +kernel
theorem dX2_knownMask_0 : decode cX2_knownMask 0 = .ok (.iconst 0, 1) := by decide +kernel
theorem dX2_knownMask_1 : decode cX2_knownMask 1 = .ok (.istore_n 2, 1) := by decide +kernel
theorem dX2_knownMask_2 : decode cX2_knownMask 2 = .ok (.iconst 0, 1) := by decide +kernel
theorem dX2_knownMask_3 : decode cX2_knownMask 3 = .ok (.istore_n 3, 1) := by decide +kernel
theorem dX2_knownMask_4 : decode cX2_knownMask 4 = .ok (.iload_n 3, 1) := by decide +kernel
theorem dX2_knownMask_5 : decode cX2_knownMask 5 = .ok (.aload_n 0, 1) := by decide +kernel
theorem dX2_knownMask_6 : decode cX2_knownMask 6 = .ok (.getfield 53, 3) := by decide +kernel
theorem dX2_knownMask_9 : decode cX2_knownMask 9 = .ok (.if_icmp .ge 33, 3) := by decide +kernel
theorem dX2_knownMask_12 : decode cX2_knownMask 12 = .ok (.iload_n 2, 1) := by decide +kernel
theorem dX2_knownMask_13 : decode cX2_knownMask 13 = .ok (.aload_n 0, 1) := by decide +kernel
theorem dX2_knownMask_14 : decode cX2_knownMask 14 = .ok (.iload_n 1, 1) := by decide +kernel
theorem dX2_knownMask_15 : decode cX2_knownMask 15 = .ok (.iload_n 3, 1) := by decide +kernel
theorem dX2_knownMask_16 : decode cX2_knownMask 16 = .ok (.iconst 0, 1) := by decide +kernel
theorem dX2_knownMask_17 : decode cX2_knownMask 17 = .ok (.invokevirtual 89, 3) := by decide +kernel
theorem dX2_knownMask_20 : decode cX2_knownMask 20 = .ok (.invokestatic 93, 3) := by decide +kernel
theorem dX2_knownMask_23 : decode cX2_knownMask 23 = .ok (.aload_n 0, 1) := by decide +kernel
theorem dX2_knownMask_24 : decode cX2_knownMask 24 = .ok (.iload_n 1, 1) := by decide +kernel
theorem dX2_knownMask_25 : decode cX2_knownMask 25 = .ok (.iload_n 3, 1) := by decide +kernel
theorem dX2_knownMask_26 : decode cX2_knownMask 26 = .ok (.iconst 1, 1) := by decide +kernel
theorem dX2_knownMask_27 : decode cX2_knownMask 27 = .ok (.invokevirtual 89, 3) := by decide +kernel
theorem dX2_knownMask_30 : decode cX2_knownMask 30 = .ok (.invokestatic 93, 3) := by decide +kernel
theorem dX2_knownMask_33 : decode cX2_knownMask 33 = .ok (.ior, 1) := by decide +kernel
theorem dX2_knownMask_34 : decode cX2_knownMask 34 = .ok (.ior, 1) := by decide +kernel
theorem dX2_knownMask_35 : decode cX2_knownMask 35 = .ok (.istore_n 2, 1) := by decide +kernel
theorem dX2_knownMask_36 : decode cX2_knownMask 36 = .ok (.iinc 3 1, 3) := by decide +kernel
theorem dX2_knownMask_39 : decode cX2_knownMask 39 = .ok (.goto (-35), 3) := by decide +kernel
theorem dX2_knownMask_42 : decode cX2_knownMask 42 = .ok (.iload_n 2, 1) := by decide +kernel
theorem dX2_knownMask_43 : decode cX2_knownMask 43 = .ok (.ireturn, 1) := by decide +kernel
theorem dX2_innBit_0 : decode cX2_innBit 0 = .ok (.iload_n 0, 1) := by decide +kernel
theorem dX2_innBit_1 : decode cX2_innBit 1 = .ok (.iconst 0, 1) := by decide +kernel
theorem dX2_innBit_2 : decode cX2_innBit 2 = .ok (.bipush 7, 2) := by decide +kernel
theorem dX2_innBit_4 : decode cX2_innBit 4 = .ok (.invokestatic 97, 3) := by decide +kernel
theorem dX2_innBit_7 : decode cX2_innBit 7 = .ok (.ifCond .eq 9, 3) := by decide +kernel
theorem dX2_innBit_10 : decode cX2_innBit 10 = .ok (.iconst 1, 1) := by decide +kernel
theorem dX2_innBit_11 : decode cX2_innBit 11 = .ok (.iload_n 0, 1) := by decide +kernel
theorem dX2_innBit_12 : decode cX2_innBit 12 = .ok (.ishl, 1) := by decide +kernel
theorem dX2_innBit_13 : decode cX2_innBit 13 = .ok (.goto 4, 3) := by decide +kernel
theorem dX2_innBit_16 : decode cX2_innBit 16 = .ok (.iconst 0, 1) := by decide +kernel
theorem dX2_innBit_17 : decode cX2_innBit 17 = .ok (.ireturn, 1) := by decide +kernel
theorem dX2_roadsThrough_0 : decode cX2_roadsThrough 0 = .ok (.iconst 0, 1) := by decide +kernel
theorem dX2_roadsThrough_1 : decode cX2_roadsThrough 1 = .ok (.istore_n 2, 1) := by decide +kernel
theorem dX2_roadsThrough_2 : decode cX2_roadsThrough 2 = .ok (.iconst 0, 1) := by decide +kernel
theorem dX2_roadsThrough_3 : decode cX2_roadsThrough 3 = .ok (.istore_n 3, 1) := by decide +kernel
theorem dX2_roadsThrough_4 : decode cX2_roadsThrough 4 = .ok (.iload_n 3, 1) := by decide +kernel
theorem dX2_roadsThrough_5 : decode cX2_roadsThrough 5 = .ok (.aload_n 0, 1) := by decide +kernel
theorem dX2_roadsThrough_6 : decode cX2_roadsThrough 6 = .ok (.getfield 53, 3) := by decide +kernel
theorem dX2_roadsThrough_9 : decode cX2_roadsThrough 9 = .ok (.if_icmp .ge 22, 3) := by decide +kernel
theorem dX2_roadsThrough_12 : decode cX2_roadsThrough 12 = .ok (.aload_n 0, 1) := by decide +kernel
theorem dX2_roadsThrough_13 : decode cX2_roadsThrough 13 = .ok (.iload_n 3, 1) := by decide +kernel
theorem dX2_roadsThrough_14 : decode cX2_roadsThrough 14 = .ok (.iload_n 1, 1) := by decide +kernel
theorem dX2_roadsThrough_15 : decode cX2_roadsThrough 15 = .ok (.invokevirtual 86, 3) := by decide +kernel
theorem dX2_roadsThrough_18 : decode cX2_roadsThrough 18 = .ok (.iconst (-1), 1) := by decide +kernel
theorem dX2_roadsThrough_19 : decode cX2_roadsThrough 19 = .ok (.if_icmp .eq 6, 3) := by decide +kernel
theorem dX2_roadsThrough_22 : decode cX2_roadsThrough 22 = .ok (.iinc 2 1, 3) := by decide +kernel
theorem dX2_roadsThrough_25 : decode cX2_roadsThrough 25 = .ok (.iinc 3 1, 3) := by decide +kernel
theorem dX2_roadsThrough_28 : decode cX2_roadsThrough 28 = .ok (.goto (-24), 3) := by decide +kernel
theorem dX2_roadsThrough_31 : decode cX2_roadsThrough 31 = .ok (.iload_n 2, 1) := by decide +kernel
theorem dX2_roadsThrough_32 : decode cX2_roadsThrough 32 = .ok (.ireturn, 1) := by decide +kernel
theorem dX2_leastUsedInn_0 : decode cX2_leastUsedInn 0 = .ok (.iconst 0, 1) := by decide +kernel
theorem dX2_leastUsedInn_1 : decode cX2_leastUsedInn 1 = .ok (.istore_n 2, 1) := by decide +kernel
theorem dX2_leastUsedInn_2 : decode cX2_leastUsedInn 2 = .ok (.iconst 0, 1) := by decide +kernel
theorem dX2_leastUsedInn_3 : decode cX2_leastUsedInn 3 = .ok (.istore_n 3, 1) := by decide +kernel
theorem dX2_leastUsedInn_4 : decode cX2_leastUsedInn 4 = .ok (.iload_n 3, 1) := by decide +kernel
theorem dX2_leastUsedInn_5 : decode cX2_leastUsedInn 5 = .ok (.bipush 6, 2) := by decide +kernel
theorem dX2_leastUsedInn_7 : decode cX2_leastUsedInn 7 = .ok (.if_icmp .gt 55, 3) := by decide +kernel
theorem dX2_leastUsedInn_10 : decode cX2_leastUsedInn 10 = .ok (.iconst 0, 1) := by decide +kernel
theorem dX2_leastUsedInn_11 : decode cX2_leastUsedInn 11 = .ok (.istore 4, 2) := by decide +kernel
theorem dX2_leastUsedInn_13 : decode cX2_leastUsedInn 13 = .ok (.iload 4, 2) := by decide +kernel
theorem dX2_leastUsedInn_15 : decode cX2_leastUsedInn 15 = .ok (.bipush 8, 2) := by decide +kernel
theorem dX2_leastUsedInn_17 : decode cX2_leastUsedInn 17 = .ok (.if_icmp .ge 39, 3) := by decide +kernel
theorem dX2_leastUsedInn_20 : decode cX2_leastUsedInn 20 = .ok (.aload_n 0, 1) := by decide +kernel
theorem dX2_leastUsedInn_21 : decode cX2_leastUsedInn 21 = .ok (.iload 4, 2) := by decide +kernel
theorem dX2_leastUsedInn_23 : decode cX2_leastUsedInn 23 = .ok (.invokevirtual 82, 3) := by decide +kernel
theorem dX2_leastUsedInn_26 : decode cX2_leastUsedInn 26 = .ok (.ifCond .eq 24, 3) := by decide +kernel
theorem dX2_leastUsedInn_29 : decode cX2_leastUsedInn 29 = .ok (.aload_n 0, 1) := by decide +kernel
theorem dX2_leastUsedInn_30 : decode cX2_leastUsedInn 30 = .ok (.iload 4, 2) := by decide +kernel
theorem dX2_leastUsedInn_32 : decode cX2_leastUsedInn 32 = .ok (.invokevirtual 101, 3) := by decide +kernel
theorem dX2_leastUsedInn_35 : decode cX2_leastUsedInn 35 = .ok (.iload_n 3, 1) := by decide +kernel
theorem dX2_leastUsedInn_36 : decode cX2_leastUsedInn 36 = .ok (.if_icmp .ne 14, 3) := by decide +kernel
theorem dX2_leastUsedInn_39 : decode cX2_leastUsedInn 39 = .ok (.iinc 2 1, 3) := by decide +kernel
theorem dX2_leastUsedInn_42 : decode cX2_leastUsedInn 42 = .ok (.iload_n 2, 1) := by decide +kernel
theorem dX2_leastUsedInn_43 : decode cX2_leastUsedInn 43 = .ok (.iload_n 1, 1) := by decide +kernel
theorem dX2_leastUsedInn_44 : decode cX2_leastUsedInn 44 = .ok (.if_icmp .ne 6, 3) := by decide +kernel
theorem dX2_leastUsedInn_47 : decode cX2_leastUsedInn 47 = .ok (.iload 4, 2) := by decide +kernel
theorem dX2_leastUsedInn_49 : decode cX2_leastUsedInn 49 = .ok (.ireturn, 1) := by decide +kernel
theorem dX2_leastUsedInn_50 : decode cX2_leastUsedInn 50 = .ok (.iinc 4 1, 3) := by decide +kernel
theorem dX2_leastUsedInn_53 : decode cX2_leastUsedInn 53 = .ok (.goto (-40), 3) := by decide +kernel
theorem dX2_leastUsedInn_56 : decode cX2_leastUsedInn 56 = .ok (.iinc 3 1, 3) := by decide +kernel
theorem dX2_leastUsedInn_59 : decode cX2_leastUsedInn 59 = .ok (.goto (-55), 3) := by decide +kernel
theorem dX2_leastUsedInn_62 : decode cX2_leastUsedInn 62 = .ok (.iconst (-1), 1) := by decide +kernel
theorem dX2_leastUsedInn_63 : decode cX2_leastUsedInn 63 = .ok (.ireturn, 1) := by decide +kernel
theorem dX2_ofEnvelope_0 : decode cX2_ofEnvelope 0 = .ok (.aload_n 0, 1) := by decide +kernel
theorem dX2_ofEnvelope_1 : decode cX2_ofEnvelope 1 = .ok (.getfield 28, 3) := by decide +kernel
theorem dX2_ofEnvelope_4 : decode cX2_ofEnvelope 4 = .ok (.iconst 4, 1) := by decide +kernel
theorem dX2_ofEnvelope_5 : decode cX2_ofEnvelope 5 = .ok (.iload_n 1, 1) := by decide +kernel
theorem dX2_ofEnvelope_6 : decode cX2_ofEnvelope 6 = .ok (.imul, 1) := by decide +kernel
theorem dX2_ofEnvelope_7 : decode cX2_ofEnvelope 7 = .ok (.iload_n 2, 1) := by decide +kernel
theorem dX2_ofEnvelope_8 : decode cX2_ofEnvelope 8 = .ok (.iadd, 1) := by decide +kernel
theorem dX2_ofEnvelope_9 : decode cX2_ofEnvelope 9 = .ok (.invokestatic 71, 3) := by decide +kernel
theorem dX2_ofEnvelope_12 : decode cX2_ofEnvelope 12 = .ok (.ireturn, 1) := by decide +kernel
theorem dX2_putNumber_0 : decode cX2_putNumber 0 = .ok (.aload_n 0, 1) := by decide +kernel
theorem dX2_putNumber_1 : decode cX2_putNumber 1 = .ok (.getfield 28, 3) := by decide +kernel
theorem dX2_putNumber_4 : decode cX2_putNumber 4 = .ok (.iconst 4, 1) := by decide +kernel
theorem dX2_putNumber_5 : decode cX2_putNumber 5 = .ok (.iload_n 1, 1) := by decide +kernel
theorem dX2_putNumber_6 : decode cX2_putNumber 6 = .ok (.imul, 1) := by decide +kernel
theorem dX2_putNumber_7 : decode cX2_putNumber 7 = .ok (.iload_n 2, 1) := by decide +kernel
theorem dX2_putNumber_8 : decode cX2_putNumber 8 = .ok (.iadd, 1) := by decide +kernel
theorem dX2_putNumber_9 : decode cX2_putNumber 9 = .ok (.iload_n 3, 1) := by decide +kernel
theorem dX2_putNumber_10 : decode cX2_putNumber 10 = .ok (.invokestatic 67, 3) := by decide +kernel
theorem dX2_putNumber_13 : decode cX2_putNumber 13 = .ok (.return_, 1) := by decide +kernel
theorem dX2_addLetter_0 : decode cX2_addLetter 0 = .ok (.iload_n 2, 1) := by decide +kernel
theorem dX2_addLetter_1 : decode cX2_addLetter 1 = .ok (.istore_n 3, 1) := by decide +kernel
theorem dX2_addLetter_2 : decode cX2_addLetter 2 = .ok (.iconst 3, 1) := by decide +kernel
theorem dX2_addLetter_3 : decode cX2_addLetter 3 = .ok (.istore 4, 2) := by decide +kernel
theorem dX2_addLetter_5 : decode cX2_addLetter 5 = .ok (.iload 4, 2) := by decide +kernel
theorem dX2_addLetter_7 : decode cX2_addLetter 7 = .ok (.iconst 1, 1) := by decide +kernel
theorem dX2_addLetter_8 : decode cX2_addLetter 8 = .ok (.if_icmp .lt 21, 3) := by decide +kernel
theorem dX2_addLetter_11 : decode cX2_addLetter 11 = .ok (.iload_n 3, 1) := by decide +kernel
theorem dX2_addLetter_12 : decode cX2_addLetter 12 = .ok (.aload_n 0, 1) := by decide +kernel
theorem dX2_addLetter_13 : decode cX2_addLetter 13 = .ok (.iload_n 1, 1) := by decide +kernel
theorem dX2_addLetter_14 : decode cX2_addLetter 14 = .ok (.iload 4, 2) := by decide +kernel
theorem dX2_addLetter_16 : decode cX2_addLetter 16 = .ok (.invokevirtual 104, 3) := by decide +kernel
theorem dX2_addLetter_19 : decode cX2_addLetter 19 = .ok (.invokestatic 107, 3) := by decide +kernel
theorem dX2_addLetter_22 : decode cX2_addLetter 22 = .ok (.istore_n 3, 1) := by decide +kernel
theorem dX2_addLetter_23 : decode cX2_addLetter 23 = .ok (.iinc 4 (-1), 3) := by decide +kernel
theorem dX2_addLetter_26 : decode cX2_addLetter 26 = .ok (.goto (-21), 3) := by decide +kernel
theorem dX2_addLetter_29 : decode cX2_addLetter 29 = .ok (.aload_n 0, 1) := by decide +kernel
theorem dX2_addLetter_30 : decode cX2_addLetter 30 = .ok (.iconst 0, 1) := by decide +kernel
theorem dX2_addLetter_31 : decode cX2_addLetter 31 = .ok (.invokevirtual 110, 3) := by decide +kernel
theorem dX2_addLetter_34 : decode cX2_addLetter 34 = .ok (.aload_n 0, 1) := by decide +kernel
theorem dX2_addLetter_35 : decode cX2_addLetter 35 = .ok (.iload_n 1, 1) := by decide +kernel
theorem dX2_addLetter_36 : decode cX2_addLetter 36 = .ok (.iconst 0, 1) := by decide +kernel
theorem dX2_addLetter_37 : decode cX2_addLetter 37 = .ok (.iload_n 3, 1) := by decide +kernel
theorem dX2_addLetter_38 : decode cX2_addLetter 38 = .ok (.iconst 0, 1) := by decide +kernel
theorem dX2_addLetter_39 : decode cX2_addLetter 39 = .ok (.invokevirtual 114, 3) := by decide +kernel
theorem dX2_addLetter_42 : decode cX2_addLetter 42 = .ok (.ireturn, 1) := by decide +kernel
theorem dX2_addAnswer_0 : decode cX2_addAnswer 0 = .ok (.aload_n 0, 1) := by decide +kernel
theorem dX2_addAnswer_1 : decode cX2_addAnswer 1 = .ok (.iconst 2, 1) := by decide +kernel
theorem dX2_addAnswer_2 : decode cX2_addAnswer 2 = .ok (.invokevirtual 110, 3) := by decide +kernel
theorem dX2_addAnswer_5 : decode cX2_addAnswer 5 = .ok (.aload_n 0, 1) := by decide +kernel
theorem dX2_addAnswer_6 : decode cX2_addAnswer 6 = .ok (.aload_n 0, 1) := by decide +kernel
theorem dX2_addAnswer_7 : decode cX2_addAnswer 7 = .ok (.getfield 40, 3) := by decide +kernel
theorem dX2_addAnswer_10 : decode cX2_addAnswer 10 = .ok (.iload_n 1, 1) := by decide +kernel
theorem dX2_addAnswer_11 : decode cX2_addAnswer 11 = .ok (.invokestatic 71, 3) := by decide +kernel
theorem dX2_addAnswer_14 : decode cX2_addAnswer 14 = .ok (.iconst 4, 1) := by decide +kernel
theorem dX2_addAnswer_15 : decode cX2_addAnswer 15 = .ok (.iload_n 2, 1) := by decide +kernel
theorem dX2_addAnswer_16 : decode cX2_addAnswer 16 = .ok (.iconst 1, 1) := by decide +kernel
theorem dX2_addAnswer_17 : decode cX2_addAnswer 17 = .ok (.invokevirtual 114, 3) := by decide +kernel
theorem dX2_addAnswer_20 : decode cX2_addAnswer 20 = .ok (.ireturn, 1) := by decide +kernel
theorem dX2_addEnvelope_0 : decode cX2_addEnvelope 0 = .ok (.aload_n 0, 1) := by decide +kernel
theorem dX2_addEnvelope_1 : decode cX2_addEnvelope 1 = .ok (.getfield 56, 3) := by decide +kernel
theorem dX2_addEnvelope_4 : decode cX2_addEnvelope 4 = .ok (.istore 5, 2) := by decide +kernel
theorem dX2_addEnvelope_6 : decode cX2_addEnvelope 6 = .ok (.aload_n 0, 1) := by decide +kernel
theorem dX2_addEnvelope_7 : decode cX2_addEnvelope 7 = .ok (.iload 5, 2) := by decide +kernel
theorem dX2_addEnvelope_9 : decode cX2_addEnvelope 9 = .ok (.iconst 0, 1) := by decide +kernel
theorem dX2_addEnvelope_10 : decode cX2_addEnvelope 10 = .ok (.iload_n 1, 1) := by decide +kernel
theorem dX2_addEnvelope_11 : decode cX2_addEnvelope 11 = .ok (.invokevirtual 118, 3) := by decide +kernel
theorem dX2_addEnvelope_14 : decode cX2_addEnvelope 14 = .ok (.aload_n 0, 1) := by decide +kernel
theorem dX2_addEnvelope_15 : decode cX2_addEnvelope 15 = .ok (.iload 5, 2) := by decide +kernel
theorem dX2_addEnvelope_17 : decode cX2_addEnvelope 17 = .ok (.iconst 1, 1) := by decide +kernel
theorem dX2_addEnvelope_18 : decode cX2_addEnvelope 18 = .ok (.iload_n 2, 1) := by decide +kernel
theorem dX2_addEnvelope_19 : decode cX2_addEnvelope 19 = .ok (.invokevirtual 118, 3) := by decide +kernel
theorem dX2_addEnvelope_22 : decode cX2_addEnvelope 22 = .ok (.aload_n 0, 1) := by decide +kernel
theorem dX2_addEnvelope_23 : decode cX2_addEnvelope 23 = .ok (.iload 5, 2) := by decide +kernel
theorem dX2_addEnvelope_25 : decode cX2_addEnvelope 25 = .ok (.iconst 2, 1) := by decide +kernel
theorem dX2_addEnvelope_26 : decode cX2_addEnvelope 26 = .ok (.iload_n 3, 1) := by decide +kernel
theorem dX2_addEnvelope_27 : decode cX2_addEnvelope 27 = .ok (.invokevirtual 118, 3) := by decide +kernel
theorem dX2_addEnvelope_30 : decode cX2_addEnvelope 30 = .ok (.aload_n 0, 1) := by decide +kernel
theorem dX2_addEnvelope_31 : decode cX2_addEnvelope 31 = .ok (.iload 5, 2) := by decide +kernel
theorem dX2_addEnvelope_33 : decode cX2_addEnvelope 33 = .ok (.iconst 3, 1) := by decide +kernel
theorem dX2_addEnvelope_34 : decode cX2_addEnvelope 34 = .ok (.iload 4, 2) := by decide +kernel
theorem dX2_addEnvelope_36 : decode cX2_addEnvelope 36 = .ok (.invokevirtual 118, 3) := by decide +kernel
theorem dX2_addEnvelope_39 : decode cX2_addEnvelope 39 = .ok (.aload_n 0, 1) := by decide +kernel
theorem dX2_addEnvelope_40 : decode cX2_addEnvelope 40 = .ok (.dup, 1) := by decide +kernel
theorem dX2_addEnvelope_41 : decode cX2_addEnvelope 41 = .ok (.getfield 56, 3) := by decide +kernel
theorem dX2_addEnvelope_44 : decode cX2_addEnvelope 44 = .ok (.iconst 1, 1) := by decide +kernel
theorem dX2_addEnvelope_45 : decode cX2_addEnvelope 45 = .ok (.iadd, 1) := by decide +kernel
theorem dX2_addEnvelope_46 : decode cX2_addEnvelope 46 = .ok (.putfield 56, 3) := by decide +kernel
theorem dX2_addEnvelope_49 : decode cX2_addEnvelope 49 = .ok (.iload 5, 2) := by decide +kernel
theorem dX2_addEnvelope_51 : decode cX2_addEnvelope 51 = .ok (.ireturn, 1) := by decide +kernel
theorem dX2_countUp_0 : decode cX2_countUp 0 = .ok (.aload_n 0, 1) := by decide +kernel
theorem dX2_countUp_1 : decode cX2_countUp 1 = .ok (.getfield 46, 3) := by decide +kernel
theorem dX2_countUp_4 : decode cX2_countUp 4 = .ok (.iload_n 1, 1) := by decide +kernel
theorem dX2_countUp_5 : decode cX2_countUp 5 = .ok (.aload_n 0, 1) := by decide +kernel
theorem dX2_countUp_6 : decode cX2_countUp 6 = .ok (.getfield 46, 3) := by decide +kernel
theorem dX2_countUp_9 : decode cX2_countUp 9 = .ok (.iload_n 1, 1) := by decide +kernel
theorem dX2_countUp_10 : decode cX2_countUp 10 = .ok (.invokestatic 71, 3) := by decide +kernel
theorem dX2_countUp_13 : decode cX2_countUp 13 = .ok (.iconst 1, 1) := by decide +kernel
theorem dX2_countUp_14 : decode cX2_countUp 14 = .ok (.iadd, 1) := by decide +kernel
theorem dX2_countUp_15 : decode cX2_countUp 15 = .ok (.invokestatic 67, 3) := by decide +kernel
theorem dX2_countUp_18 : decode cX2_countUp 18 = .ok (.return_, 1) := by decide +kernel
theorem dX2_letTicksPass_0 : decode cX2_letTicksPass 0 = .ok (.iconst 0, 1) := by decide +kernel
theorem dX2_letTicksPass_1 : decode cX2_letTicksPass 1 = .ok (.istore_n 2, 1) := by decide +kernel
theorem dX2_letTicksPass_2 : decode cX2_letTicksPass 2 = .ok (.iconst 0, 1) := by decide +kernel
theorem dX2_letTicksPass_3 : decode cX2_letTicksPass 3 = .ok (.istore_n 3, 1) := by decide +kernel
theorem dX2_letTicksPass_4 : decode cX2_letTicksPass 4 = .ok (.iload_n 3, 1) := by decide +kernel
theorem dX2_letTicksPass_5 : decode cX2_letTicksPass 5 = .ok (.iload_n 1, 1) := by decide +kernel
theorem dX2_letTicksPass_6 : decode cX2_letTicksPass 6 = .ok (.if_icmp .ge 43, 3) := by decide +kernel
theorem dX2_letTicksPass_9 : decode cX2_letTicksPass 9 = .ok (.iconst 0, 1) := by decide +kernel
theorem dX2_letTicksPass_10 : decode cX2_letTicksPass 10 = .ok (.istore 4, 2) := by decide +kernel
theorem dX2_letTicksPass_12 : decode cX2_letTicksPass 12 = .ok (.iload 4, 2) := by decide +kernel
theorem dX2_letTicksPass_14 : decode cX2_letTicksPass 14 = .ok (.aload_n 0, 1) := by decide +kernel
theorem dX2_letTicksPass_15 : decode cX2_letTicksPass 15 = .ok (.getfield 56, 3) := by decide +kernel
theorem dX2_letTicksPass_18 : decode cX2_letTicksPass 18 = .ok (.if_icmp .ge 21, 3) := by decide +kernel
theorem dX2_letTicksPass_21 : decode cX2_letTicksPass 21 = .ok (.aload_n 0, 1) := by decide +kernel
theorem dX2_letTicksPass_22 : decode cX2_letTicksPass 22 = .ok (.iload 4, 2) := by decide +kernel
theorem dX2_letTicksPass_24 : decode cX2_letTicksPass 24 = .ok (.invokevirtual 121, 3) := by decide +kernel
theorem dX2_letTicksPass_27 : decode cX2_letTicksPass 27 = .ok (.ifCond .eq 6, 3) := by decide +kernel
theorem dX2_letTicksPass_30 : decode cX2_letTicksPass 30 = .ok (.iinc 2 1, 3) := by decide +kernel
theorem dX2_letTicksPass_33 : decode cX2_letTicksPass 33 = .ok (.iinc 4 1, 3) := by decide +kernel
theorem dX2_letTicksPass_36 : decode cX2_letTicksPass 36 = .ok (.goto (-24), 3) := by decide +kernel
theorem dX2_letTicksPass_39 : decode cX2_letTicksPass 39 = .ok (.aload_n 0, 1) := by decide +kernel
theorem dX2_letTicksPass_40 : decode cX2_letTicksPass 40 = .ok (.invokevirtual 124, 3) := by decide +kernel
theorem dX2_letTicksPass_43 : decode cX2_letTicksPass 43 = .ok (.iinc 3 1, 3) := by decide +kernel
theorem dX2_letTicksPass_46 : decode cX2_letTicksPass 46 = .ok (.goto (-42), 3) := by decide +kernel
theorem dX2_letTicksPass_49 : decode cX2_letTicksPass 49 = .ok (.iload_n 2, 1) := by decide +kernel
theorem dX2_letTicksPass_50 : decode cX2_letTicksPass 50 = .ok (.ireturn, 1) := by decide +kernel
theorem dX2_moveOn_0 : decode cX2_moveOn 0 = .ok (.aload_n 0, 1) := by decide +kernel
theorem dX2_moveOn_1 : decode cX2_moveOn 1 = .ok (.iload_n 1, 1) := by decide +kernel
theorem dX2_moveOn_2 : decode cX2_moveOn 2 = .ok (.iconst 3, 1) := by decide +kernel
theorem dX2_moveOn_3 : decode cX2_moveOn 3 = .ok (.invokevirtual 75, 3) := by decide +kernel
theorem dX2_moveOn_6 : decode cX2_moveOn 6 = .ok (.ifCond .ne 7, 3) := by decide +kernel
theorem dX2_moveOn_9 : decode cX2_moveOn 9 = .ok (.iconst 1, 1) := by decide +kernel
theorem dX2_moveOn_10 : decode cX2_moveOn 10 = .ok (.goto 4, 3) := by decide +kernel
theorem dX2_moveOn_13 : decode cX2_moveOn 13 = .ok (.iconst (-1), 1) := by decide +kernel
theorem dX2_moveOn_14 : decode cX2_moveOn 14 = .ok (.istore_n 2, 1) := by decide +kernel
theorem dX2_moveOn_15 : decode cX2_moveOn 15 = .ok (.aload_n 0, 1) := by decide +kernel
theorem dX2_moveOn_16 : decode cX2_moveOn 16 = .ok (.iload_n 1, 1) := by decide +kernel
theorem dX2_moveOn_17 : decode cX2_moveOn 17 = .ok (.iconst 1, 1) := by decide +kernel
theorem dX2_moveOn_18 : decode cX2_moveOn 18 = .ok (.invokevirtual 75, 3) := by decide +kernel
theorem dX2_moveOn_21 : decode cX2_moveOn 21 = .ok (.iload_n 2, 1) := by decide +kernel
theorem dX2_moveOn_22 : decode cX2_moveOn 22 = .ok (.iadd, 1) := by decide +kernel
theorem dX2_moveOn_23 : decode cX2_moveOn 23 = .ok (.istore_n 3, 1) := by decide +kernel
theorem dX2_moveOn_24 : decode cX2_moveOn 24 = .ok (.aload_n 0, 1) := by decide +kernel
theorem dX2_moveOn_25 : decode cX2_moveOn 25 = .ok (.iload_n 1, 1) := by decide +kernel
theorem dX2_moveOn_26 : decode cX2_moveOn 26 = .ok (.iconst 1, 1) := by decide +kernel
theorem dX2_moveOn_27 : decode cX2_moveOn 27 = .ok (.iload_n 3, 1) := by decide +kernel
theorem dX2_moveOn_28 : decode cX2_moveOn 28 = .ok (.invokevirtual 118, 3) := by decide +kernel
theorem dX2_moveOn_31 : decode cX2_moveOn 31 = .ok (.iload_n 3, 1) := by decide +kernel
theorem dX2_moveOn_32 : decode cX2_moveOn 32 = .ok (.iconst 4, 1) := by decide +kernel
theorem dX2_moveOn_33 : decode cX2_moveOn 33 = .ok (.if_icmp .ne 10, 3) := by decide +kernel
theorem dX2_moveOn_36 : decode cX2_moveOn 36 = .ok (.aload_n 0, 1) := by decide +kernel
theorem dX2_moveOn_37 : decode cX2_moveOn 37 = .ok (.iload_n 1, 1) := by decide +kernel
theorem dX2_moveOn_38 : decode cX2_moveOn 38 = .ok (.invokevirtual 127, 3) := by decide +kernel
theorem dX2_moveOn_41 : decode cX2_moveOn 41 = .ok (.iconst 1, 1) := by decide +kernel
theorem dX2_moveOn_42 : decode cX2_moveOn 42 = .ok (.ireturn, 1) := by decide +kernel
theorem dX2_moveOn_43 : decode cX2_moveOn 43 = .ok (.iload_n 3, 1) := by decide +kernel
theorem dX2_moveOn_44 : decode cX2_moveOn 44 = .ok (.ifCond .ne 10, 3) := by decide +kernel
theorem dX2_moveOn_47 : decode cX2_moveOn 47 = .ok (.aload_n 0, 1) := by decide +kernel
theorem dX2_moveOn_48 : decode cX2_moveOn 48 = .ok (.iload_n 1, 1) := by decide +kernel
theorem dX2_moveOn_49 : decode cX2_moveOn 49 = .ok (.invokevirtual 130, 3) := by decide +kernel
theorem dX2_moveOn_52 : decode cX2_moveOn 52 = .ok (.iconst 1, 1) := by decide +kernel
theorem dX2_moveOn_53 : decode cX2_moveOn 53 = .ok (.ireturn, 1) := by decide +kernel
theorem dX2_moveOn_54 : decode cX2_moveOn 54 = .ok (.aload_n 0, 1) := by decide +kernel
theorem dX2_moveOn_55 : decode cX2_moveOn 55 = .ok (.iload_n 1, 1) := by decide +kernel
theorem dX2_moveOn_56 : decode cX2_moveOn 56 = .ok (.iload_n 3, 1) := by decide +kernel
theorem dX2_moveOn_57 : decode cX2_moveOn 57 = .ok (.invokevirtual 133, 3) := by decide +kernel
theorem dX2_moveOn_60 : decode cX2_moveOn 60 = .ok (.iconst 0, 1) := by decide +kernel
theorem dX2_moveOn_61 : decode cX2_moveOn 61 = .ok (.ireturn, 1) := by decide +kernel
theorem dX2_reachInn_0 : decode cX2_reachInn 0 = .ok (.aload_n 0, 1) := by decide +kernel
theorem dX2_reachInn_1 : decode cX2_reachInn 1 = .ok (.iload_n 1, 1) := by decide +kernel
theorem dX2_reachInn_2 : decode cX2_reachInn 2 = .ok (.iconst 0, 1) := by decide +kernel
theorem dX2_reachInn_3 : decode cX2_reachInn 3 = .ok (.invokevirtual 75, 3) := by decide +kernel
theorem dX2_reachInn_6 : decode cX2_reachInn 6 = .ok (.istore_n 3, 1) := by decide +kernel
theorem dX2_reachInn_7 : decode cX2_reachInn 7 = .ok (.aload_n 0, 1) := by decide +kernel
theorem dX2_reachInn_8 : decode cX2_reachInn 8 = .ok (.aload_n 0, 1) := by decide +kernel
theorem dX2_reachInn_9 : decode cX2_reachInn 9 = .ok (.iload_n 3, 1) := by decide +kernel
theorem dX2_reachInn_10 : decode cX2_reachInn 10 = .ok (.iload_n 2, 1) := by decide +kernel
theorem dX2_reachInn_11 : decode cX2_reachInn 11 = .ok (.invokevirtual 79, 3) := by decide +kernel
theorem dX2_reachInn_14 : decode cX2_reachInn 14 = .ok (.invokevirtual 82, 3) := by decide +kernel
theorem dX2_reachInn_17 : decode cX2_reachInn 17 = .ok (.ifCond .ne 16, 3) := by decide +kernel
theorem dX2_reachInn_20 : decode cX2_reachInn 20 = .ok (.aload_n 0, 1) := by decide +kernel
theorem dX2_reachInn_21 : decode cX2_reachInn 21 = .ok (.iconst 4, 1) := by decide +kernel
theorem dX2_reachInn_22 : decode cX2_reachInn 22 = .ok (.invokevirtual 110, 3) := by decide +kernel
theorem dX2_reachInn_25 : decode cX2_reachInn 25 = .ok (.aload_n 0, 1) := by decide +kernel
theorem dX2_reachInn_26 : decode cX2_reachInn 26 = .ok (.iload_n 1, 1) := by decide +kernel
theorem dX2_reachInn_27 : decode cX2_reachInn 27 = .ok (.iconst 1, 1) := by decide +kernel
theorem dX2_reachInn_28 : decode cX2_reachInn 28 = .ok (.iconst (-1), 1) := by decide +kernel
theorem dX2_reachInn_29 : decode cX2_reachInn 29 = .ok (.invokevirtual 118, 3) := by decide +kernel
theorem dX2_reachInn_32 : decode cX2_reachInn 32 = .ok (.return_, 1) := by decide +kernel
theorem dX2_reachInn_33 : decode cX2_reachInn 33 = .ok (.aload_n 0, 1) := by decide +kernel
theorem dX2_reachInn_34 : decode cX2_reachInn 34 = .ok (.iload_n 1, 1) := by decide +kernel
theorem dX2_reachInn_35 : decode cX2_reachInn 35 = .ok (.iconst 2, 1) := by decide +kernel
theorem dX2_reachInn_36 : decode cX2_reachInn 36 = .ok (.invokevirtual 75, 3) := by decide +kernel
theorem dX2_reachInn_39 : decode cX2_reachInn 39 = .ok (.istore 4, 2) := by decide +kernel
theorem dX2_reachInn_41 : decode cX2_reachInn 41 = .ok (.aload_n 0, 1) := by decide +kernel
theorem dX2_reachInn_42 : decode cX2_reachInn 42 = .ok (.iload_n 3, 1) := by decide +kernel
theorem dX2_reachInn_43 : decode cX2_reachInn 43 = .ok (.iload_n 2, 1) := by decide +kernel
theorem dX2_reachInn_44 : decode cX2_reachInn 44 = .ok (.invokevirtual 104, 3) := by decide +kernel
theorem dX2_reachInn_47 : decode cX2_reachInn 47 = .ok (.istore 5, 2) := by decide +kernel
theorem dX2_reachInn_49 : decode cX2_reachInn 49 = .ok (.aload_n 0, 1) := by decide +kernel
theorem dX2_reachInn_50 : decode cX2_reachInn 50 = .ok (.iload_n 1, 1) := by decide +kernel
theorem dX2_reachInn_51 : decode cX2_reachInn 51 = .ok (.iconst 3, 1) := by decide +kernel
theorem dX2_reachInn_52 : decode cX2_reachInn 52 = .ok (.invokevirtual 75, 3) := by decide +kernel
theorem dX2_reachInn_55 : decode cX2_reachInn 55 = .ok (.ifCond .ne 7, 3) := by decide +kernel
theorem dX2_reachInn_58 : decode cX2_reachInn 58 = .ok (.iconst 1, 1) := by decide +kernel
theorem dX2_reachInn_59 : decode cX2_reachInn 59 = .ok (.goto 4, 3) := by decide +kernel
theorem dX2_reachInn_62 : decode cX2_reachInn 62 = .ok (.iconst 0, 1) := by decide +kernel
theorem dX2_reachInn_63 : decode cX2_reachInn 63 = .ok (.istore 6, 2) := by decide +kernel
theorem dX2_reachInn_65 : decode cX2_reachInn 65 = .ok (.aload_n 0, 1) := by decide +kernel
theorem dX2_reachInn_66 : decode cX2_reachInn 66 = .ok (.iload_n 1, 1) := by decide +kernel
theorem dX2_reachInn_67 : decode cX2_reachInn 67 = .ok (.iconst 2, 1) := by decide +kernel
theorem dX2_reachInn_68 : decode cX2_reachInn 68 = .ok (.iload 6, 2) := by decide +kernel
theorem dX2_reachInn_70 : decode cX2_reachInn 70 = .ok (.ifCond .eq 13, 3) := by decide +kernel
theorem dX2_reachInn_73 : decode cX2_reachInn 73 = .ok (.iload 4, 2) := by decide +kernel
theorem dX2_reachInn_75 : decode cX2_reachInn 75 = .ok (.iload 5, 2) := by decide +kernel
theorem dX2_reachInn_77 : decode cX2_reachInn 77 = .ok (.invokestatic 137, 3) := by decide +kernel
theorem dX2_reachInn_80 : decode cX2_reachInn 80 = .ok (.goto 10, 3) := by decide +kernel
theorem dX2_reachInn_83 : decode cX2_reachInn 83 = .ok (.iload 4, 2) := by decide +kernel
theorem dX2_reachInn_85 : decode cX2_reachInn 85 = .ok (.iload 5, 2) := by decide +kernel
theorem dX2_reachInn_87 : decode cX2_reachInn 87 = .ok (.invokestatic 107, 3) := by decide +kernel
theorem dX2_reachInn_90 : decode cX2_reachInn 90 = .ok (.invokevirtual 118, 3) := by decide +kernel
theorem dX2_reachInn_93 : decode cX2_reachInn 93 = .ok (.return_, 1) := by decide +kernel
theorem dX2_reachHall_0 : decode cX2_reachHall 0 = .ok (.aload_n 0, 1) := by decide +kernel
theorem dX2_reachHall_1 : decode cX2_reachHall 1 = .ok (.iload_n 1, 1) := by decide +kernel
theorem dX2_reachHall_2 : decode cX2_reachHall 2 = .ok (.iconst 0, 1) := by decide +kernel
theorem dX2_reachHall_3 : decode cX2_reachHall 3 = .ok (.invokevirtual 75, 3) := by decide +kernel
theorem dX2_reachHall_6 : decode cX2_reachHall 6 = .ok (.istore_n 2, 1) := by decide +kernel
theorem dX2_reachHall_7 : decode cX2_reachHall 7 = .ok (.aload_n 0, 1) := by decide +kernel
theorem dX2_reachHall_8 : decode cX2_reachHall 8 = .ok (.getfield 25, 3) := by decide +kernel
theorem dX2_reachHall_11 : decode cX2_reachHall 11 = .ok (.iload_n 2, 1) := by decide +kernel
theorem dX2_reachHall_12 : decode cX2_reachHall 12 = .ok (.invokestatic 71, 3) := by decide +kernel
theorem dX2_reachHall_15 : decode cX2_reachHall 15 = .ok (.istore_n 3, 1) := by decide +kernel
theorem dX2_reachHall_16 : decode cX2_reachHall 16 = .ok (.aload_n 0, 1) := by decide +kernel
theorem dX2_reachHall_17 : decode cX2_reachHall 17 = .ok (.getfield 31, 3) := by decide +kernel
theorem dX2_reachHall_20 : decode cX2_reachHall 20 = .ok (.iload_n 3, 1) := by decide +kernel
theorem dX2_reachHall_21 : decode cX2_reachHall 21 = .ok (.aload_n 0, 1) := by decide +kernel
theorem dX2_reachHall_22 : decode cX2_reachHall 22 = .ok (.iload_n 1, 1) := by decide +kernel
theorem dX2_reachHall_23 : decode cX2_reachHall 23 = .ok (.iconst 2, 1) := by decide +kernel
theorem dX2_reachHall_24 : decode cX2_reachHall 24 = .ok (.invokevirtual 75, 3) := by decide +kernel
theorem dX2_reachHall_27 : decode cX2_reachHall 27 = .ok (.invokestatic 67, 3) := by decide +kernel
theorem dX2_reachHall_30 : decode cX2_reachHall 30 = .ok (.aload_n 0, 1) := by decide +kernel
theorem dX2_reachHall_31 : decode cX2_reachHall 31 = .ok (.getfield 40, 3) := by decide +kernel
theorem dX2_reachHall_34 : decode cX2_reachHall 34 = .ok (.iload_n 3, 1) := by decide +kernel
theorem dX2_reachHall_35 : decode cX2_reachHall 35 = .ok (.iload_n 2, 1) := by decide +kernel
theorem dX2_reachHall_36 : decode cX2_reachHall 36 = .ok (.invokestatic 67, 3) := by decide +kernel
theorem dX2_reachHall_39 : decode cX2_reachHall 39 = .ok (.aload_n 0, 1) := by decide +kernel
theorem dX2_reachHall_40 : decode cX2_reachHall 40 = .ok (.iconst 1, 1) := by decide +kernel
theorem dX2_reachHall_41 : decode cX2_reachHall 41 = .ok (.invokevirtual 110, 3) := by decide +kernel
theorem dX2_reachHall_44 : decode cX2_reachHall 44 = .ok (.aload_n 0, 1) := by decide +kernel
theorem dX2_reachHall_45 : decode cX2_reachHall 45 = .ok (.iload_n 1, 1) := by decide +kernel
theorem dX2_reachHall_46 : decode cX2_reachHall 46 = .ok (.iconst 1, 1) := by decide +kernel
theorem dX2_reachHall_47 : decode cX2_reachHall 47 = .ok (.iconst (-1), 1) := by decide +kernel
theorem dX2_reachHall_48 : decode cX2_reachHall 48 = .ok (.invokevirtual 118, 3) := by decide +kernel
theorem dX2_reachHall_51 : decode cX2_reachHall 51 = .ok (.return_, 1) := by decide +kernel
theorem dX2_reachTraveller_0 : decode cX2_reachTraveller 0 = .ok (.aload_n 0, 1) := by decide +kernel
theorem dX2_reachTraveller_1 : decode cX2_reachTraveller 1 = .ok (.iload_n 1, 1) := by decide +kernel
theorem dX2_reachTraveller_2 : decode cX2_reachTraveller 2 = .ok (.iconst 0, 1) := by decide +kernel
theorem dX2_reachTraveller_3 : decode cX2_reachTraveller 3 = .ok (.invokevirtual 75, 3) := by decide +kernel
theorem dX2_reachTraveller_6 : decode cX2_reachTraveller 6 = .ok (.istore_n 2, 1) := by decide +kernel
theorem dX2_reachTraveller_7 : decode cX2_reachTraveller 7 = .ok (.aload_n 0, 1) := by decide +kernel
theorem dX2_reachTraveller_8 : decode cX2_reachTraveller 8 = .ok (.iload_n 1, 1) := by decide +kernel
theorem dX2_reachTraveller_9 : decode cX2_reachTraveller 9 = .ok (.iconst 2, 1) := by decide +kernel
theorem dX2_reachTraveller_10 : decode cX2_reachTraveller 10 = .ok (.invokevirtual 75, 3) := by decide +kernel
theorem dX2_reachTraveller_13 : decode cX2_reachTraveller 13 = .ok (.istore_n 3, 1) := by decide +kernel
theorem dX2_reachTraveller_14 : decode cX2_reachTraveller 14 = .ok (.iconst 1, 1) := by decide +kernel
theorem dX2_reachTraveller_15 : decode cX2_reachTraveller 15 = .ok (.istore 4, 2) := by decide +kernel
theorem dX2_reachTraveller_17 : decode cX2_reachTraveller 17 = .ok (.iload 4, 2) := by decide +kernel
theorem dX2_reachTraveller_19 : decode cX2_reachTraveller 19 = .ok (.iconst 3, 1) := by decide +kernel
theorem dX2_reachTraveller_20 : decode cX2_reachTraveller 20 = .ok (.if_icmp .gt 21, 3) := by decide +kernel
theorem dX2_reachTraveller_23 : decode cX2_reachTraveller 23 = .ok (.iload_n 3, 1) := by decide +kernel
theorem dX2_reachTraveller_24 : decode cX2_reachTraveller 24 = .ok (.aload_n 0, 1) := by decide +kernel
theorem dX2_reachTraveller_25 : decode cX2_reachTraveller 25 = .ok (.iload_n 2, 1) := by decide +kernel
theorem dX2_reachTraveller_26 : decode cX2_reachTraveller 26 = .ok (.iload 4, 2) := by decide +kernel
theorem dX2_reachTraveller_28 : decode cX2_reachTraveller 28 = .ok (.invokevirtual 104, 3) := by decide +kernel
theorem dX2_reachTraveller_31 : decode cX2_reachTraveller 31 = .ok (.invokestatic 137, 3) := by decide +kernel
theorem dX2_reachTraveller_34 : decode cX2_reachTraveller 34 = .ok (.istore_n 3, 1) := by decide +kernel
theorem dX2_reachTraveller_35 : decode cX2_reachTraveller 35 = .ok (.iinc 4 1, 3) := by decide +kernel
theorem dX2_reachTraveller_38 : decode cX2_reachTraveller 38 = .ok (.goto (-21), 3) := by decide +kernel
theorem dX2_reachTraveller_41 : decode cX2_reachTraveller 41 = .ok (.aload_n 0, 1) := by decide +kernel
theorem dX2_reachTraveller_42 : decode cX2_reachTraveller 42 = .ok (.iload_n 3, 1) := by decide +kernel
theorem dX2_reachTraveller_43 : decode cX2_reachTraveller 43 = .ok (.putfield 43, 3) := by decide +kernel
theorem dX2_reachTraveller_46 : decode cX2_reachTraveller 46 = .ok (.aload_n 0, 1) := by decide +kernel
theorem dX2_reachTraveller_47 : decode cX2_reachTraveller 47 = .ok (.iconst 3, 1) := by decide +kernel
theorem dX2_reachTraveller_48 : decode cX2_reachTraveller 48 = .ok (.invokevirtual 110, 3) := by decide +kernel
theorem dX2_reachTraveller_51 : decode cX2_reachTraveller 51 = .ok (.aload_n 0, 1) := by decide +kernel
theorem dX2_reachTraveller_52 : decode cX2_reachTraveller 52 = .ok (.iload_n 1, 1) := by decide +kernel
theorem dX2_reachTraveller_53 : decode cX2_reachTraveller 53 = .ok (.iconst 1, 1) := by decide +kernel
theorem dX2_reachTraveller_54 : decode cX2_reachTraveller 54 = .ok (.iconst (-1), 1) := by decide +kernel
theorem dX2_reachTraveller_55 : decode cX2_reachTraveller 55 = .ok (.invokevirtual 118, 3) := by decide +kernel
theorem dX2_reachTraveller_58 : decode cX2_reachTraveller 58 = .ok (.return_, 1) := by decide +kernel
theorem dX2_takeOutGone_0 : decode cX2_takeOutGone 0 = .ok (.iconst 0, 1) := by decide +kernel
theorem dX2_takeOutGone_1 : decode cX2_takeOutGone 1 = .ok (.istore_n 1, 1) := by decide +kernel
theorem dX2_takeOutGone_2 : decode cX2_takeOutGone 2 = .ok (.iconst 0, 1) := by decide +kernel
theorem dX2_takeOutGone_3 : decode cX2_takeOutGone 3 = .ok (.istore_n 2, 1) := by decide +kernel
theorem dX2_takeOutGone_4 : decode cX2_takeOutGone 4 = .ok (.iload_n 2, 1) := by decide +kernel
theorem dX2_takeOutGone_5 : decode cX2_takeOutGone 5 = .ok (.aload_n 0, 1) := by decide +kernel
theorem dX2_takeOutGone_6 : decode cX2_takeOutGone 6 = .ok (.getfield 56, 3) := by decide +kernel
theorem dX2_takeOutGone_9 : decode cX2_takeOutGone 9 = .ok (.if_icmp .ge 47, 3) := by decide +kernel
theorem dX2_takeOutGone_12 : decode cX2_takeOutGone 12 = .ok (.aload_n 0, 1) := by decide +kernel
theorem dX2_takeOutGone_13 : decode cX2_takeOutGone 13 = .ok (.iload_n 2, 1) := by decide +kernel
theorem dX2_takeOutGone_14 : decode cX2_takeOutGone 14 = .ok (.iconst 1, 1) := by decide +kernel
theorem dX2_takeOutGone_15 : decode cX2_takeOutGone 15 = .ok (.invokevirtual 75, 3) := by decide +kernel
theorem dX2_takeOutGone_18 : decode cX2_takeOutGone 18 = .ok (.iconst (-1), 1) := by decide +kernel
theorem dX2_takeOutGone_19 : decode cX2_takeOutGone 19 = .ok (.if_icmp .eq 31, 3) := by decide +kernel
theorem dX2_takeOutGone_22 : decode cX2_takeOutGone 22 = .ok (.iconst 0, 1) := by decide +kernel
theorem dX2_takeOutGone_23 : decode cX2_takeOutGone 23 = .ok (.istore_n 3, 1) := by decide +kernel
theorem dX2_takeOutGone_24 : decode cX2_takeOutGone 24 = .ok (.iload_n 3, 1) := by decide +kernel
theorem dX2_takeOutGone_25 : decode cX2_takeOutGone 25 = .ok (.iconst 4, 1) := by decide +kernel
theorem dX2_takeOutGone_26 : decode cX2_takeOutGone 26 = .ok (.if_icmp .ge 21, 3) := by decide +kernel
theorem dX2_takeOutGone_29 : decode cX2_takeOutGone 29 = .ok (.aload_n 0, 1) := by decide +kernel
theorem dX2_takeOutGone_30 : decode cX2_takeOutGone 30 = .ok (.iload_n 1, 1) := by decide +kernel
theorem dX2_takeOutGone_31 : decode cX2_takeOutGone 31 = .ok (.iload_n 3, 1) := by decide +kernel
theorem dX2_takeOutGone_32 : decode cX2_takeOutGone 32 = .ok (.aload_n 0, 1) := by decide +kernel
theorem dX2_takeOutGone_33 : decode cX2_takeOutGone 33 = .ok (.iload_n 2, 1) := by decide +kernel
theorem dX2_takeOutGone_34 : decode cX2_takeOutGone 34 = .ok (.iload_n 3, 1) := by decide +kernel
theorem dX2_takeOutGone_35 : decode cX2_takeOutGone 35 = .ok (.invokevirtual 75, 3) := by decide +kernel
theorem dX2_takeOutGone_38 : decode cX2_takeOutGone 38 = .ok (.invokevirtual 118, 3) := by decide +kernel
theorem dX2_takeOutGone_41 : decode cX2_takeOutGone 41 = .ok (.iinc 3 1, 3) := by decide +kernel
theorem dX2_takeOutGone_44 : decode cX2_takeOutGone 44 = .ok (.goto (-20), 3) := by decide +kernel
theorem dX2_takeOutGone_47 : decode cX2_takeOutGone 47 = .ok (.iinc 1 1, 3) := by decide +kernel
theorem dX2_takeOutGone_50 : decode cX2_takeOutGone 50 = .ok (.iinc 2 1, 3) := by decide +kernel
theorem dX2_takeOutGone_53 : decode cX2_takeOutGone 53 = .ok (.goto (-49), 3) := by decide +kernel
theorem dX2_takeOutGone_56 : decode cX2_takeOutGone 56 = .ok (.aload_n 0, 1) := by decide +kernel
theorem dX2_takeOutGone_57 : decode cX2_takeOutGone 57 = .ok (.iload_n 1, 1) := by decide +kernel
theorem dX2_takeOutGone_58 : decode cX2_takeOutGone 58 = .ok (.putfield 56, 3) := by decide +kernel
theorem dX2_takeOutGone_61 : decode cX2_takeOutGone 61 = .ok (.return_, 1) := by decide +kernel
theorem dX2_lostWithout_0 : decode cX2_lostWithout 0 = .ok (.iconst 0, 1) := by decide +kernel
theorem dX2_lostWithout_1 : decode cX2_lostWithout 1 = .ok (.istore_n 2, 1) := by decide +kernel
theorem dX2_lostWithout_2 : decode cX2_lostWithout 2 = .ok (.iconst 0, 1) := by decide +kernel
theorem dX2_lostWithout_3 : decode cX2_lostWithout 3 = .ok (.istore_n 3, 1) := by decide +kernel
theorem dX2_lostWithout_4 : decode cX2_lostWithout 4 = .ok (.iload_n 3, 1) := by decide +kernel
theorem dX2_lostWithout_5 : decode cX2_lostWithout 5 = .ok (.aload_n 0, 1) := by decide +kernel
theorem dX2_lostWithout_6 : decode cX2_lostWithout 6 = .ok (.getfield 56, 3) := by decide +kernel
theorem dX2_lostWithout_9 : decode cX2_lostWithout 9 = .ok (.if_icmp .ge 31, 3) := by decide +kernel
theorem dX2_lostWithout_12 : decode cX2_lostWithout 12 = .ok (.aload_n 0, 1) := by decide +kernel
theorem dX2_lostWithout_13 : decode cX2_lostWithout 13 = .ok (.iload_n 3, 1) := by decide +kernel
theorem dX2_lostWithout_14 : decode cX2_lostWithout 14 = .ok (.aload_n 0, 1) := by decide +kernel
theorem dX2_lostWithout_15 : decode cX2_lostWithout 15 = .ok (.getfield 9, 3) := by decide +kernel
theorem dX2_lostWithout_18 : decode cX2_lostWithout 18 = .ok (.iconst 1, 1) := by decide +kernel
theorem dX2_lostWithout_19 : decode cX2_lostWithout 19 = .ok (.iload_n 1, 1) := by decide +kernel
theorem dX2_lostWithout_20 : decode cX2_lostWithout 20 = .ok (.ishl, 1) := by decide +kernel
theorem dX2_lostWithout_21 : decode cX2_lostWithout 21 = .ok (.iconst (-1), 1) := by decide +kernel
theorem dX2_lostWithout_22 : decode cX2_lostWithout 22 = .ok (.ixor, 1) := by decide +kernel
theorem dX2_lostWithout_23 : decode cX2_lostWithout 23 = .ok (.iand, 1) := by decide +kernel
theorem dX2_lostWithout_24 : decode cX2_lostWithout 24 = .ok (.invokevirtual 140, 3) := by decide +kernel
theorem dX2_lostWithout_27 : decode cX2_lostWithout 27 = .ok (.iconst (-1), 1) := by decide +kernel
theorem dX2_lostWithout_28 : decode cX2_lostWithout 28 = .ok (.if_icmp .ne 6, 3) := by decide +kernel
theorem dX2_lostWithout_31 : decode cX2_lostWithout 31 = .ok (.iinc 2 1, 3) := by decide +kernel
theorem dX2_lostWithout_34 : decode cX2_lostWithout 34 = .ok (.iinc 3 1, 3) := by decide +kernel
theorem dX2_lostWithout_37 : decode cX2_lostWithout 37 = .ok (.goto (-33), 3) := by decide +kernel
theorem dX2_lostWithout_40 : decode cX2_lostWithout 40 = .ok (.iload_n 2, 1) := by decide +kernel
theorem dX2_lostWithout_41 : decode cX2_lostWithout 41 = .ok (.ireturn, 1) := by decide +kernel
theorem dX2_ticksLeft_0 : decode cX2_ticksLeft 0 = .ok (.aload_n 0, 1) := by decide +kernel
theorem dX2_ticksLeft_1 : decode cX2_ticksLeft 1 = .ok (.iload_n 1, 1) := by decide +kernel
theorem dX2_ticksLeft_2 : decode cX2_ticksLeft 2 = .ok (.iconst 0, 1) := by decide +kernel
theorem dX2_ticksLeft_3 : decode cX2_ticksLeft 3 = .ok (.invokevirtual 75, 3) := by decide +kernel
theorem dX2_ticksLeft_6 : decode cX2_ticksLeft 6 = .ok (.istore_n 3, 1) := by decide +kernel
theorem dX2_ticksLeft_7 : decode cX2_ticksLeft 7 = .ok (.aload_n 0, 1) := by decide +kernel
theorem dX2_ticksLeft_8 : decode cX2_ticksLeft 8 = .ok (.iload_n 1, 1) := by decide +kernel
theorem dX2_ticksLeft_9 : decode cX2_ticksLeft 9 = .ok (.iconst 1, 1) := by decide +kernel
theorem dX2_ticksLeft_10 : decode cX2_ticksLeft 10 = .ok (.invokevirtual 75, 3) := by decide +kernel
theorem dX2_ticksLeft_13 : decode cX2_ticksLeft 13 = .ok (.istore 4, 2) := by decide +kernel
theorem dX2_ticksLeft_15 : decode cX2_ticksLeft 15 = .ok (.aload_n 0, 1) := by decide +kernel
theorem dX2_ticksLeft_16 : decode cX2_ticksLeft 16 = .ok (.iload_n 1, 1) := by decide +kernel
theorem dX2_ticksLeft_17 : decode cX2_ticksLeft 17 = .ok (.iconst 3, 1) := by decide +kernel
theorem dX2_ticksLeft_18 : decode cX2_ticksLeft 18 = .ok (.invokevirtual 75, 3) := by decide +kernel
theorem dX2_ticksLeft_21 : decode cX2_ticksLeft 21 = .ok (.ifCond .ne 7, 3) := by decide +kernel
theorem dX2_ticksLeft_24 : decode cX2_ticksLeft 24 = .ok (.iconst 1, 1) := by decide +kernel
theorem dX2_ticksLeft_25 : decode cX2_ticksLeft 25 = .ok (.goto 4, 3) := by decide +kernel
theorem dX2_ticksLeft_28 : decode cX2_ticksLeft 28 = .ok (.iconst 0, 1) := by decide +kernel
theorem dX2_ticksLeft_29 : decode cX2_ticksLeft 29 = .ok (.istore 5, 2) := by decide +kernel
theorem dX2_ticksLeft_31 : decode cX2_ticksLeft 31 = .ok (.iconst 1, 1) := by decide +kernel
theorem dX2_ticksLeft_32 : decode cX2_ticksLeft 32 = .ok (.istore 6, 2) := by decide +kernel
theorem dX2_ticksLeft_34 : decode cX2_ticksLeft 34 = .ok (.iload 6, 2) := by decide +kernel
theorem dX2_ticksLeft_36 : decode cX2_ticksLeft 36 = .ok (.iconst 3, 1) := by decide +kernel
theorem dX2_ticksLeft_37 : decode cX2_ticksLeft 37 = .ok (.if_icmp .gt 64, 3) := by decide +kernel
theorem dX2_ticksLeft_40 : decode cX2_ticksLeft 40 = .ok (.iload 5, 2) := by decide +kernel
theorem dX2_ticksLeft_42 : decode cX2_ticksLeft 42 = .ok (.ifCond .eq 18, 3) := by decide +kernel
theorem dX2_ticksLeft_45 : decode cX2_ticksLeft 45 = .ok (.iload 6, 2) := by decide +kernel
theorem dX2_ticksLeft_47 : decode cX2_ticksLeft 47 = .ok (.iload 4, 2) := by decide +kernel
theorem dX2_ticksLeft_49 : decode cX2_ticksLeft 49 = .ok (.if_icmp .le 7, 3) := by decide +kernel
theorem dX2_ticksLeft_52 : decode cX2_ticksLeft 52 = .ok (.iconst 1, 1) := by decide +kernel
theorem dX2_ticksLeft_53 : decode cX2_ticksLeft 53 = .ok (.goto 19, 3) := by decide +kernel
theorem dX2_ticksLeft_56 : decode cX2_ticksLeft 56 = .ok (.iconst 0, 1) := by decide +kernel
theorem dX2_ticksLeft_57 : decode cX2_ticksLeft 57 = .ok (.goto 15, 3) := by decide +kernel
theorem dX2_ticksLeft_60 : decode cX2_ticksLeft 60 = .ok (.iload 6, 2) := by decide +kernel
theorem dX2_ticksLeft_62 : decode cX2_ticksLeft 62 = .ok (.iload 4, 2) := by decide +kernel
theorem dX2_ticksLeft_64 : decode cX2_ticksLeft 64 = .ok (.if_icmp .ge 7, 3) := by decide +kernel
theorem dX2_ticksLeft_67 : decode cX2_ticksLeft 67 = .ok (.iconst 1, 1) := by decide +kernel
theorem dX2_ticksLeft_68 : decode cX2_ticksLeft 68 = .ok (.goto 4, 3) := by decide +kernel
theorem dX2_ticksLeft_71 : decode cX2_ticksLeft 71 = .ok (.iconst 0, 1) := by decide +kernel
theorem dX2_ticksLeft_72 : decode cX2_ticksLeft 72 = .ok (.istore 7, 2) := by decide +kernel
theorem dX2_ticksLeft_74 : decode cX2_ticksLeft 74 = .ok (.iload 7, 2) := by decide +kernel
theorem dX2_ticksLeft_76 : decode cX2_ticksLeft 76 = .ok (.ifCond .eq 19, 3) := by decide +kernel
theorem dX2_ticksLeft_79 : decode cX2_ticksLeft 79 = .ok (.iload_n 2, 1) := by decide +kernel
theorem dX2_ticksLeft_80 : decode cX2_ticksLeft 80 = .ok (.aload_n 0, 1) := by decide +kernel
theorem dX2_ticksLeft_81 : decode cX2_ticksLeft 81 = .ok (.iload_n 3, 1) := by decide +kernel
theorem dX2_ticksLeft_82 : decode cX2_ticksLeft 82 = .ok (.iload 6, 2) := by decide +kernel
theorem dX2_ticksLeft_84 : decode cX2_ticksLeft 84 = .ok (.invokevirtual 79, 3) := by decide +kernel
theorem dX2_ticksLeft_87 : decode cX2_ticksLeft 87 = .ok (.invokestatic 59, 3) := by decide +kernel
theorem dX2_ticksLeft_90 : decode cX2_ticksLeft 90 = .ok (.ifCond .ne 5, 3) := by decide +kernel
theorem dX2_ticksLeft_93 : decode cX2_ticksLeft 93 = .ok (.iconst (-1), 1) := by decide +kernel
theorem dX2_ticksLeft_94 : decode cX2_ticksLeft 94 = .ok (.ireturn, 1) := by decide +kernel
theorem dX2_ticksLeft_95 : decode cX2_ticksLeft 95 = .ok (.iinc 6 1, 3) := by decide +kernel
theorem dX2_ticksLeft_98 : decode cX2_ticksLeft 98 = .ok (.goto (-64), 3) := by decide +kernel
theorem dX2_ticksLeft_101 : decode cX2_ticksLeft 101 = .ok (.iload 5, 2) := by decide +kernel
theorem dX2_ticksLeft_103 : decode cX2_ticksLeft 103 = .ok (.ifCond .eq 10, 3) := by decide +kernel
theorem dX2_ticksLeft_106 : decode cX2_ticksLeft 106 = .ok (.iconst 4, 1) := by decide +kernel
theorem dX2_ticksLeft_107 : decode cX2_ticksLeft 107 = .ok (.iload 4, 2) := by decide +kernel
theorem dX2_ticksLeft_109 : decode cX2_ticksLeft 109 = .ok (.isub, 1) := by decide +kernel
theorem dX2_ticksLeft_110 : decode cX2_ticksLeft 110 = .ok (.goto 5, 3) := by decide +kernel
theorem dX2_ticksLeft_113 : decode cX2_ticksLeft 113 = .ok (.iload 4, 2) := by decide +kernel
theorem dX2_ticksLeft_115 : decode cX2_ticksLeft 115 = .ok (.ireturn, 1) := by decide +kernel
end
section
theorem dX3_init_0 : decode cX3_init 0 = .ok (.aload_n 0, 1) := by decide +kernel
theorem dX3_init_1 : decode cX3_init 1 = .ok (.invokespecial 1, 3) := by decide +kernel
theorem dX3_init_4 : decode cX3_init 4 = .ok (.aload_n 0, 1) := by decide +kernel
theorem dX3_init_5 : decode cX3_init 5 = .ok (.new 7, 3) := by decide +kernel
theorem dX3_init_8 : decode cX3_init 8 = .ok (.dup, 1) := by decide +kernel
theorem dX3_init_9 : decode cX3_init 9 = .ok (.invokespecial 9, 3) := by decide +kernel
theorem dX3_init_12 : decode cX3_init 12 = .ok (.putfield 10, 3) := by decide +kernel
theorem dX3_init_15 : decode cX3_init 15 = .ok (.aload_n 0, 1) := by decide +kernel
theorem dX3_init_16 : decode cX3_init 16 = .ok (.new 16, 3) := by decide +kernel
theorem dX3_init_19 : decode cX3_init 19 = .ok (.dup, 1) := by decide +kernel
theorem dX3_init_20 : decode cX3_init 20 = .ok (.invokespecial 18, 3) := by decide +kernel
theorem dX3_init_23 : decode cX3_init 23 = .ok (.putfield 19, 3) := by decide +kernel
theorem dX3_init_26 : decode cX3_init 26 = .ok (.aload_n 0, 1) := by decide +kernel
theorem dX3_init_27 : decode cX3_init 27 = .ok (.new 23, 3) := by decide +kernel
theorem dX3_init_30 : decode cX3_init 30 = .ok (.dup, 1) := by decide +kernel
theorem dX3_init_31 : decode cX3_init 31 = .ok (.invokespecial 25, 3) := by decide +kernel
theorem dX3_init_34 : decode cX3_init 34 = .ok (.putfield 26, 3) := by decide +kernel
theorem dX3_init_37 : decode cX3_init 37 = .ok (.return_, 1) := by decide +kernel
theorem dX3_setOpen_0 : decode cX3_setOpen 0 = .ok (.iload_n 1, 1) := by decide +kernel
theorem dX3_setOpen_1 : decode cX3_setOpen 1 = .ok (.invokestatic 30, 3) := by decide +kernel
theorem dX3_setOpen_4 : decode cX3_setOpen 4 = .ok (.invokestatic 34, 3) := by decide +kernel
theorem dX3_setOpen_7 : decode cX3_setOpen 7 = .ok (.aload_n 0, 1) := by decide +kernel
theorem dX3_setOpen_8 : decode cX3_setOpen 8 = .ok (.getfield 19, 3) := by decide +kernel
theorem dX3_setOpen_11 : decode cX3_setOpen 11 = .ok (.aload_n 0, 1) := by decide +kernel
theorem dX3_setOpen_12 : decode cX3_setOpen 12 = .ok (.getfield 10, 3) := by decide +kernel
theorem dX3_setOpen_15 : decode cX3_setOpen 15 = .ok (.invokevirtual 38, 3) := by decide +kernel
theorem dX3_setOpen_18 : decode cX3_setOpen 18 = .ok (.aload_n 0, 1) := by decide +kernel
theorem dX3_setOpen_19 : decode cX3_setOpen 19 = .ok (.getfield 10, 3) := by decide +kernel
theorem dX3_setOpen_22 : decode cX3_setOpen 22 = .ok (.iload_n 1, 1) := by decide +kernel
theorem dX3_setOpen_23 : decode cX3_setOpen 23 = .ok (.invokevirtual 42, 3) := by decide +kernel
theorem dX3_setOpen_26 : decode cX3_setOpen 26 = .ok (.istore_n 3, 1) := by decide +kernel
theorem dX3_setOpen_27 : decode cX3_setOpen 27 = .ok (.aload_n 0, 1) := by decide +kernel
theorem dX3_setOpen_28 : decode cX3_setOpen 28 = .ok (.getfield 10, 3) := by decide +kernel
theorem dX3_setOpen_31 : decode cX3_setOpen 31 = .ok (.iload_n 1, 1) := by decide +kernel
theorem dX3_setOpen_32 : decode cX3_setOpen 32 = .ok (.iload_n 2, 1) := by decide +kernel
theorem dX3_setOpen_33 : decode cX3_setOpen 33 = .ok (.invokevirtual 46, 3) := by decide +kernel
theorem dX3_setOpen_36 : decode cX3_setOpen 36 = .ok (.iload_n 3, 1) := by decide +kernel
theorem dX3_setOpen_37 : decode cX3_setOpen 37 = .ok (.ireturn, 1) := by decide +kernel
theorem dX3_setKey_0 : decode cX3_setKey 0 = .ok (.iload_n 1, 1) := by decide +kernel
theorem dX3_setKey_1 : decode cX3_setKey 1 = .ok (.iload_n 2, 1) := by decide +kernel
theorem dX3_setKey_2 : decode cX3_setKey 2 = .ok (.invokestatic 50, 3) := by decide +kernel
theorem dX3_setKey_5 : decode cX3_setKey 5 = .ok (.invokestatic 34, 3) := by decide +kernel
theorem dX3_setKey_8 : decode cX3_setKey 8 = .ok (.aload_n 0, 1) := by decide +kernel
theorem dX3_setKey_9 : decode cX3_setKey 9 = .ok (.getfield 19, 3) := by decide +kernel
theorem dX3_setKey_12 : decode cX3_setKey 12 = .ok (.aload_n 0, 1) := by decide +kernel
theorem dX3_setKey_13 : decode cX3_setKey 13 = .ok (.getfield 10, 3) := by decide +kernel
theorem dX3_setKey_16 : decode cX3_setKey 16 = .ok (.invokevirtual 38, 3) := by decide +kernel
theorem dX3_setKey_19 : decode cX3_setKey 19 = .ok (.aload_n 0, 1) := by decide +kernel
theorem dX3_setKey_20 : decode cX3_setKey 20 = .ok (.getfield 10, 3) := by decide +kernel
theorem dX3_setKey_23 : decode cX3_setKey 23 = .ok (.getfield 54, 3) := by decide +kernel
theorem dX3_setKey_26 : decode cX3_setKey 26 = .ok (.iload_n 1, 1) := by decide +kernel
theorem dX3_setKey_27 : decode cX3_setKey 27 = .ok (.invokestatic 58, 3) := by decide +kernel
theorem dX3_setKey_30 : decode cX3_setKey 30 = .ok (.istore_n 3, 1) := by decide +kernel
theorem dX3_setKey_31 : decode cX3_setKey 31 = .ok (.aload_n 0, 1) := by decide +kernel
theorem dX3_setKey_32 : decode cX3_setKey 32 = .ok (.getfield 10, 3) := by decide +kernel
theorem dX3_setKey_35 : decode cX3_setKey 35 = .ok (.getfield 54, 3) := by decide +kernel
theorem dX3_setKey_38 : decode cX3_setKey 38 = .ok (.iload_n 1, 1) := by decide +kernel
theorem dX3_setKey_39 : decode cX3_setKey 39 = .ok (.iload_n 2, 1) := by decide +kernel
theorem dX3_setKey_40 : decode cX3_setKey 40 = .ok (.invokestatic 62, 3) := by decide +kernel
theorem dX3_setKey_43 : decode cX3_setKey 43 = .ok (.iload_n 3, 1) := by decide +kernel
theorem dX3_setKey_44 : decode cX3_setKey 44 = .ok (.ireturn, 1) := by decide +kernel
theorem dX3_isOpen_0 : decode cX3_isOpen 0 = .ok (.iload_n 1, 1) := by decide +kernel
theorem dX3_isOpen_1 : decode cX3_isOpen 1 = .ok (.invokestatic 30, 3) := by decide +kernel
theorem dX3_isOpen_4 : decode cX3_isOpen 4 = .ok (.invokestatic 34, 3) := by decide +kernel
theorem dX3_isOpen_7 : decode cX3_isOpen 7 = .ok (.aload_n 0, 1) := by decide +kernel
theorem dX3_isOpen_8 : decode cX3_isOpen 8 = .ok (.getfield 10, 3) := by decide +kernel
theorem dX3_isOpen_11 : decode cX3_isOpen 11 = .ok (.iload_n 1, 1) := by decide +kernel
theorem dX3_isOpen_12 : decode cX3_isOpen 12 = .ok (.invokevirtual 42, 3) := by decide +kernel
theorem dX3_isOpen_15 : decode cX3_isOpen 15 = .ok (.ireturn, 1) := by decide +kernel
theorem dX3_key_0 : decode cX3_key 0 = .ok (.iload_n 1, 1) := by decide +kernel
theorem dX3_key_1 : decode cX3_key 1 = .ok (.invokestatic 30, 3) := by decide +kernel
theorem dX3_key_4 : decode cX3_key 4 = .ok (.invokestatic 34, 3) := by decide +kernel
theorem dX3_key_7 : decode cX3_key 7 = .ok (.aload_n 0, 1) := by decide +kernel
theorem dX3_key_8 : decode cX3_key 8 = .ok (.getfield 10, 3) := by decide +kernel
theorem dX3_key_11 : decode cX3_key 11 = .ok (.getfield 54, 3) := by decide +kernel
theorem dX3_key_14 : decode cX3_key 14 = .ok (.iload_n 1, 1) := by decide +kernel
theorem dX3_key_15 : decode cX3_key 15 = .ok (.invokestatic 58, 3) := by decide +kernel
theorem dX3_key_18 : decode cX3_key 18 = .ok (.ireturn, 1) := by decide +kernel
theorem dX3_cover_0 : decode cX3_cover 0 = .ok (.iload_n 1, 1) := by decide +kernel
theorem dX3_cover_1 : decode cX3_cover 1 = .ok (.iload_n 2, 1) := by decide +kernel
theorem dX3_cover_2 : decode cX3_cover 2 = .ok (.invokestatic 50, 3) := by decide +kernel
theorem dX3_cover_5 : decode cX3_cover 5 = .ok (.invokestatic 34, 3) := by decide +kernel
theorem dX3_cover_8 : decode cX3_cover 8 = .ok (.iload_n 2, 1) := by decide +kernel
theorem dX3_cover_9 : decode cX3_cover 9 = .ok (.aload_n 0, 1) := by decide +kernel
theorem dX3_cover_10 : decode cX3_cover 10 = .ok (.getfield 10, 3) := by decide +kernel
theorem dX3_cover_13 : decode cX3_cover 13 = .ok (.getfield 54, 3) := by decide +kernel
theorem dX3_cover_16 : decode cX3_cover 16 = .ok (.iload_n 1, 1) := by decide +kernel
theorem dX3_cover_17 : decode cX3_cover 17 = .ok (.invokestatic 58, 3) := by decide +kernel
theorem dX3_cover_20 : decode cX3_cover 20 = .ok (.invokestatic 66, 3) := by decide +kernel
theorem dX3_cover_23 : decode cX3_cover 23 = .ok (.ireturn, 1) := by decide +kernel
theorem dX3_uncover_0 : decode cX3_uncover 0 = .ok (.iload_n 1, 1) := by decide +kernel
theorem dX3_uncover_1 : decode cX3_uncover 1 = .ok (.iload_n 2, 1) := by decide +kernel
theorem dX3_uncover_2 : decode cX3_uncover 2 = .ok (.invokestatic 50, 3) := by decide +kernel
theorem dX3_uncover_5 : decode cX3_uncover 5 = .ok (.invokestatic 34, 3) := by decide +kernel
theorem dX3_uncover_8 : decode cX3_uncover 8 = .ok (.iload_n 2, 1) := by decide +kernel
theorem dX3_uncover_9 : decode cX3_uncover 9 = .ok (.aload_n 0, 1) := by decide +kernel
theorem dX3_uncover_10 : decode cX3_uncover 10 = .ok (.getfield 10, 3) := by decide +kernel
theorem dX3_uncover_13 : decode cX3_uncover 13 = .ok (.getfield 54, 3) := by decide +kernel
theorem dX3_uncover_16 : decode cX3_uncover 16 = .ok (.iload_n 1, 1) := by decide +kernel
theorem dX3_uncover_17 : decode cX3_uncover 17 = .ok (.invokestatic 58, 3) := by decide +kernel
theorem dX3_uncover_20 : decode cX3_uncover 20 = .ok (.invokestatic 69, 3) := by decide +kernel
theorem dX3_uncover_23 : decode cX3_uncover 23 = .ok (.ireturn, 1) := by decide +kernel
theorem dX3_lay_0 : decode cX3_lay 0 = .ok (.aload_n 0, 1) := by decide +kernel
theorem dX3_lay_1 : decode cX3_lay 1 = .ok (.iload_n 1, 1) := by decide +kernel
theorem dX3_lay_2 : decode cX3_lay 2 = .ok (.iload_n 2, 1) := by decide +kernel
theorem dX3_lay_3 : decode cX3_lay 3 = .ok (.iload_n 3, 1) := by decide +kernel
theorem dX3_lay_4 : decode cX3_lay 4 = .ok (.iload 4, 2) := by decide +kernel
theorem dX3_lay_6 : decode cX3_lay 6 = .ok (.invokevirtual 72, 3) := by decide +kernel
theorem dX3_lay_9 : decode cX3_lay 9 = .ok (.invokestatic 34, 3) := by decide +kernel
theorem dX3_lay_12 : decode cX3_lay 12 = .ok (.aload_n 0, 1) := by decide +kernel
theorem dX3_lay_13 : decode cX3_lay 13 = .ok (.getfield 19, 3) := by decide +kernel
theorem dX3_lay_16 : decode cX3_lay 16 = .ok (.aload_n 0, 1) := by decide +kernel
theorem dX3_lay_17 : decode cX3_lay 17 = .ok (.getfield 10, 3) := by decide +kernel
theorem dX3_lay_20 : decode cX3_lay 20 = .ok (.invokevirtual 38, 3) := by decide +kernel
theorem dX3_lay_23 : decode cX3_lay 23 = .ok (.aload_n 0, 1) := by decide +kernel
theorem dX3_lay_24 : decode cX3_lay 24 = .ok (.getfield 10, 3) := by decide +kernel
theorem dX3_lay_27 : decode cX3_lay 27 = .ok (.iload_n 1, 1) := by decide +kernel
theorem dX3_lay_28 : decode cX3_lay 28 = .ok (.iload_n 2, 1) := by decide +kernel
theorem dX3_lay_29 : decode cX3_lay 29 = .ok (.iload_n 3, 1) := by decide +kernel
theorem dX3_lay_30 : decode cX3_lay 30 = .ok (.iload 4, 2) := by decide +kernel
theorem dX3_lay_32 : decode cX3_lay 32 = .ok (.invokevirtual 76, 3) := by decide +kernel
theorem dX3_lay_35 : decode cX3_lay 35 = .ok (.ireturn, 1) := by decide +kernel
theorem dX3_takeUp_0 : decode cX3_takeUp 0 = .ok (.aload_n 0, 1) := by decide +kernel
theorem dX3_takeUp_1 : decode cX3_takeUp 1 = .ok (.getfield 10, 3) := by decide +kernel
theorem dX3_takeUp_4 : decode cX3_takeUp 4 = .ok (.getfield 79, 3) := by decide +kernel
theorem dX3_takeUp_7 : decode cX3_takeUp 7 = .ok (.ifCond .eq 22, 3) := by decide +kernel
theorem dX3_takeUp_10 : decode cX3_takeUp 10 = .ok (.aload_n 0, 1) := by decide +kernel
theorem dX3_takeUp_11 : decode cX3_takeUp 11 = .ok (.getfield 10, 3) := by decide +kernel
theorem dX3_takeUp_14 : decode cX3_takeUp 14 = .ok (.aload_n 0, 1) := by decide +kernel
theorem dX3_takeUp_15 : decode cX3_takeUp 15 = .ok (.getfield 10, 3) := by decide +kernel
theorem dX3_takeUp_18 : decode cX3_takeUp 18 = .ok (.getfield 79, 3) := by decide +kernel
theorem dX3_takeUp_21 : decode cX3_takeUp 21 = .ok (.iconst 1, 1) := by decide +kernel
theorem dX3_takeUp_22 : decode cX3_takeUp 22 = .ok (.isub, 1) := by decide +kernel
theorem dX3_takeUp_23 : decode cX3_takeUp 23 = .ok (.invokevirtual 83, 3) := by decide +kernel
theorem dX3_takeUp_26 : decode cX3_takeUp 26 = .ok (.ifCond .eq 13, 3) := by decide +kernel
theorem dX3_takeUp_29 : decode cX3_takeUp 29 = .ok (.new 86, 3) := by decide +kernel
theorem dX3_takeUp_32 : decode cX3_takeUp 32 = .ok (.dup, 1) := by decide +kernel
theorem dX3_takeUp_33 : decode cX3_takeUp 33 = .ok (.ldc 88, 2) := by decide +kernel
theorem dX3_takeUp_35 : decode cX3_takeUp 35 = .ok (.invokespecial 90, 3) := by decide +kernel
theorem dX3_takeUp_38 : decode cX3_takeUp 38 = .ok (.athrow, 1) := by decide +kernel
theorem dX3_takeUp_39 : decode cX3_takeUp 39 = .ok (.aload_n 0, 1) := by decide +kernel
theorem dX3_takeUp_40 : decode cX3_takeUp 40 = .ok (.getfield 19, 3) := by decide +kernel
theorem dX3_takeUp_43 : decode cX3_takeUp 43 = .ok (.aload_n 0, 1) := by decide +kernel
theorem dX3_takeUp_44 : decode cX3_takeUp 44 = .ok (.getfield 10, 3) := by decide +kernel
theorem dX3_takeUp_47 : decode cX3_takeUp 47 = .ok (.invokevirtual 38, 3) := by decide +kernel
theorem dX3_takeUp_50 : decode cX3_takeUp 50 = .ok (.aload_n 0, 1) := by decide +kernel
theorem dX3_takeUp_51 : decode cX3_takeUp 51 = .ok (.getfield 10, 3) := by decide +kernel
theorem dX3_takeUp_54 : decode cX3_takeUp 54 = .ok (.invokevirtual 93, 3) := by decide +kernel
theorem dX3_takeUp_57 : decode cX3_takeUp 57 = .ok (.aload_n 0, 1) := by decide +kernel
theorem dX3_takeUp_58 : decode cX3_takeUp 58 = .ok (.getfield 10, 3) := by decide +kernel
theorem dX3_takeUp_61 : decode cX3_takeUp 61 = .ok (.getfield 79, 3) := by decide +kernel
theorem dX3_takeUp_64 : decode cX3_takeUp 64 = .ok (.ireturn, 1) := by decide +kernel
theorem dX3_roads_0 : decode cX3_roads 0 = .ok (.aload_n 0, 1) := by decide +kernel
theorem dX3_roads_1 : decode cX3_roads 1 = .ok (.getfield 10, 3) := by decide +kernel
theorem dX3_roads_4 : decode cX3_roads 4 = .ok (.getfield 79, 3) := by decide +kernel
theorem dX3_roads_7 : decode cX3_roads 7 = .ok (.ireturn, 1) := by decide +kernel
theorem dX3_inn_0 : decode cX3_inn 0 = .ok (.iload_n 2, 1) := by decide +kernel
theorem dX3_inn_1 : decode cX3_inn 1 = .ok (.iconst 1, 1) := by decide +kernel
theorem dX3_inn_2 : decode cX3_inn 2 = .ok (.iconst 3, 1) := by decide +kernel
theorem dX3_inn_3 : decode cX3_inn 3 = .ok (.invokestatic 96, 3) := by decide +kernel
theorem dX3_inn_6 : decode cX3_inn 6 = .ok (.ifCond .eq 11, 3) := by decide +kernel
theorem dX3_inn_9 : decode cX3_inn 9 = .ok (.aload_n 0, 1) := by decide +kernel
theorem dX3_inn_10 : decode cX3_inn 10 = .ok (.iload_n 1, 1) := by decide +kernel
theorem dX3_inn_11 : decode cX3_inn 11 = .ok (.invokevirtual 100, 3) := by decide +kernel
theorem dX3_inn_14 : decode cX3_inn 14 = .ok (.goto 4, 3) := by decide +kernel
theorem dX3_inn_17 : decode cX3_inn 17 = .ok (.iconst 1, 1) := by decide +kernel
theorem dX3_inn_18 : decode cX3_inn 18 = .ok (.invokestatic 34, 3) := by decide +kernel
theorem dX3_inn_21 : decode cX3_inn 21 = .ok (.aload_n 0, 1) := by decide +kernel
theorem dX3_inn_22 : decode cX3_inn 22 = .ok (.getfield 10, 3) := by decide +kernel
theorem dX3_inn_25 : decode cX3_inn 25 = .ok (.iload_n 1, 1) := by decide +kernel
theorem dX3_inn_26 : decode cX3_inn 26 = .ok (.iload_n 2, 1) := by decide +kernel
theorem dX3_inn_27 : decode cX3_inn 27 = .ok (.invokevirtual 103, 3) := by decide +kernel
theorem dX3_inn_30 : decode cX3_inn 30 = .ok (.ireturn, 1) := by decide +kernel
theorem dX3_hall_0 : decode cX3_hall 0 = .ok (.aload_n 0, 1) := by decide +kernel
theorem dX3_hall_1 : decode cX3_hall 1 = .ok (.iload_n 1, 1) := by decide +kernel
theorem dX3_hall_2 : decode cX3_hall 2 = .ok (.invokevirtual 100, 3) := by decide +kernel
theorem dX3_hall_5 : decode cX3_hall 5 = .ok (.invokestatic 34, 3) := by decide +kernel
theorem dX3_hall_8 : decode cX3_hall 8 = .ok (.aload_n 0, 1) := by decide +kernel
theorem dX3_hall_9 : decode cX3_hall 9 = .ok (.getfield 10, 3) := by decide +kernel
theorem dX3_hall_12 : decode cX3_hall 12 = .ok (.getfield 106, 3) := by decide +kernel
theorem dX3_hall_15 : decode cX3_hall 15 = .ok (.iload_n 1, 1) := by decide +kernel
theorem dX3_hall_16 : decode cX3_hall 16 = .ok (.invokestatic 58, 3) := by decide +kernel
theorem dX3_hall_19 : decode cX3_hall 19 = .ok (.ireturn, 1) := by decide +kernel
theorem dX3_stands_0 : decode cX3_stands 0 = .ok (.aload_n 0, 1) := by decide +kernel
theorem dX3_stands_1 : decode cX3_stands 1 = .ok (.iload_n 1, 1) := by decide +kernel
theorem dX3_stands_2 : decode cX3_stands 2 = .ok (.invokevirtual 100, 3) := by decide +kernel
theorem dX3_stands_5 : decode cX3_stands 5 = .ok (.invokestatic 34, 3) := by decide +kernel
theorem dX3_stands_8 : decode cX3_stands 8 = .ok (.aload_n 0, 1) := by decide +kernel
theorem dX3_stands_9 : decode cX3_stands 9 = .ok (.getfield 10, 3) := by decide +kernel
theorem dX3_stands_12 : decode cX3_stands 12 = .ok (.iload_n 1, 1) := by decide +kernel
theorem dX3_stands_13 : decode cX3_stands 13 = .ok (.invokevirtual 109, 3) := by decide +kernel
theorem dX3_stands_16 : decode cX3_stands 16 = .ok (.ireturn, 1) := by decide +kernel
theorem dX3_see_0 : decode cX3_see 0 = .ok (.iload_n 1, 1) := by decide +kernel
theorem dX3_see_1 : decode cX3_see 1 = .ok (.invokestatic 30, 3) := by decide +kernel
theorem dX3_see_4 : decode cX3_see 4 = .ok (.invokestatic 34, 3) := by decide +kernel
theorem dX3_see_7 : decode cX3_see 7 = .ok (.iload_n 3, 1) := by decide +kernel
theorem dX3_see_8 : decode cX3_see 8 = .ok (.iconst 0, 1) := by decide +kernel
theorem dX3_see_9 : decode cX3_see 9 = .ok (.iconst 1, 1) := by decide +kernel
theorem dX3_see_10 : decode cX3_see 10 = .ok (.invokestatic 96, 3) := by decide +kernel
theorem dX3_see_13 : decode cX3_see 13 = .ok (.ifCond .eq 11, 3) := by decide +kernel
theorem dX3_see_16 : decode cX3_see 16 = .ok (.aload_n 0, 1) := by decide +kernel
theorem dX3_see_17 : decode cX3_see 17 = .ok (.iload_n 2, 1) := by decide +kernel
theorem dX3_see_18 : decode cX3_see 18 = .ok (.invokevirtual 100, 3) := by decide +kernel
theorem dX3_see_21 : decode cX3_see 21 = .ok (.goto 4, 3) := by decide +kernel
theorem dX3_see_24 : decode cX3_see 24 = .ok (.iconst 1, 1) := by decide +kernel
theorem dX3_see_25 : decode cX3_see 25 = .ok (.invokestatic 34, 3) := by decide +kernel
theorem dX3_see_28 : decode cX3_see 28 = .ok (.aload_n 0, 1) := by decide +kernel
theorem dX3_see_29 : decode cX3_see 29 = .ok (.getfield 10, 3) := by decide +kernel
theorem dX3_see_32 : decode cX3_see 32 = .ok (.iload_n 1, 1) := by decide +kernel
theorem dX3_see_33 : decode cX3_see 33 = .ok (.iload_n 2, 1) := by decide +kernel
theorem dX3_see_34 : decode cX3_see 34 = .ok (.iload_n 3, 1) := by decide +kernel
theorem dX3_see_35 : decode cX3_see 35 = .ok (.invokevirtual 112, 3) := by decide +kernel
theorem dX3_see_38 : decode cX3_see 38 = .ok (.ireturn, 1) := by decide +kernel
theorem dX3_known_0 : decode cX3_known 0 = .ok (.iload_n 1, 1) := by decide +kernel
theorem dX3_known_1 : decode cX3_known 1 = .ok (.invokestatic 30, 3) := by decide +kernel
theorem dX3_known_4 : decode cX3_known 4 = .ok (.invokestatic 34, 3) := by decide +kernel
theorem dX3_known_7 : decode cX3_known 7 = .ok (.aload_n 0, 1) := by decide +kernel
theorem dX3_known_8 : decode cX3_known 8 = .ok (.getfield 10, 3) := by decide +kernel
theorem dX3_known_11 : decode cX3_known 11 = .ok (.iload_n 1, 1) := by decide +kernel
theorem dX3_known_12 : decode cX3_known 12 = .ok (.invokevirtual 116, 3) := by decide +kernel
theorem dX3_known_15 : decode cX3_known 15 = .ok (.ireturn, 1) := by decide +kernel
theorem dX3_send_0 : decode cX3_send 0 = .ok (.aload_n 0, 1) := by decide +kernel
theorem dX3_send_1 : decode cX3_send 1 = .ok (.iload_n 1, 1) := by decide +kernel
theorem dX3_send_2 : decode cX3_send 2 = .ok (.iload_n 2, 1) := by decide +kernel
theorem dX3_send_3 : decode cX3_send 3 = .ok (.invokevirtual 119, 3) := by decide +kernel
theorem dX3_send_6 : decode cX3_send 6 = .ok (.invokestatic 34, 3) := by decide +kernel
theorem dX3_send_9 : decode cX3_send 9 = .ok (.aload_n 0, 1) := by decide +kernel
theorem dX3_send_10 : decode cX3_send 10 = .ok (.getfield 19, 3) := by decide +kernel
theorem dX3_send_13 : decode cX3_send 13 = .ok (.aload_n 0, 1) := by decide +kernel
theorem dX3_send_14 : decode cX3_send 14 = .ok (.getfield 10, 3) := by decide +kernel
theorem dX3_send_17 : decode cX3_send 17 = .ok (.invokevirtual 38, 3) := by decide +kernel
theorem dX3_send_20 : decode cX3_send 20 = .ok (.aload_n 0, 1) := by decide +kernel
theorem dX3_send_21 : decode cX3_send 21 = .ok (.getfield 10, 3) := by decide +kernel
theorem dX3_send_24 : decode cX3_send 24 = .ok (.iload_n 1, 1) := by decide +kernel
theorem dX3_send_25 : decode cX3_send 25 = .ok (.iload_n 2, 1) := by decide +kernel
theorem dX3_send_26 : decode cX3_send 26 = .ok (.invokevirtual 122, 3) := by decide +kernel
theorem dX3_send_29 : decode cX3_send 29 = .ok (.ireturn, 1) := by decide +kernel
theorem dX3_answer_0 : decode cX3_answer 0 = .ok (.aload_n 0, 1) := by decide +kernel
theorem dX3_answer_1 : decode cX3_answer 1 = .ok (.iload_n 1, 1) := by decide +kernel
theorem dX3_answer_2 : decode cX3_answer 2 = .ok (.iload_n 2, 1) := by decide +kernel
theorem dX3_answer_3 : decode cX3_answer 3 = .ok (.invokevirtual 125, 3) := by decide +kernel
theorem dX3_answer_6 : decode cX3_answer 6 = .ok (.invokestatic 34, 3) := by decide +kernel
theorem dX3_answer_9 : decode cX3_answer 9 = .ok (.aload_n 0, 1) := by decide +kernel
theorem dX3_answer_10 : decode cX3_answer 10 = .ok (.getfield 19, 3) := by decide +kernel
theorem dX3_answer_13 : decode cX3_answer 13 = .ok (.aload_n 0, 1) := by decide +kernel
theorem dX3_answer_14 : decode cX3_answer 14 = .ok (.getfield 10, 3) := by decide +kernel
theorem dX3_answer_17 : decode cX3_answer 17 = .ok (.invokevirtual 38, 3) := by decide +kernel
theorem dX3_answer_20 : decode cX3_answer 20 = .ok (.aload_n 0, 1) := by decide +kernel
theorem dX3_answer_21 : decode cX3_answer 21 = .ok (.getfield 10, 3) := by decide +kernel
theorem dX3_answer_24 : decode cX3_answer 24 = .ok (.iload_n 1, 1) := by decide +kernel
theorem dX3_answer_25 : decode cX3_answer 25 = .ok (.iload_n 2, 1) := by decide +kernel
theorem dX3_answer_26 : decode cX3_answer 26 = .ok (.invokevirtual 128, 3) := by decide +kernel
theorem dX3_answer_29 : decode cX3_answer 29 = .ok (.ireturn, 1) := by decide +kernel
theorem dX3_pass_0 : decode cX3_pass 0 = .ok (.iload_n 1, 1) := by decide +kernel
theorem dX3_pass_1 : decode cX3_pass 1 = .ok (.iconst 1, 1) := by decide +kernel
theorem dX3_pass_2 : decode cX3_pass 2 = .ok (.bipush 9, 2) := by decide +kernel
theorem dX3_pass_4 : decode cX3_pass 4 = .ok (.invokestatic 96, 3) := by decide +kernel
theorem dX3_pass_7 : decode cX3_pass 7 = .ok (.ifCond .ne 13, 3) := by decide +kernel
theorem dX3_pass_10 : decode cX3_pass 10 = .ok (.new 131, 3) := by decide +kernel
theorem dX3_pass_13 : decode cX3_pass 13 = .ok (.dup, 1) := by decide +kernel
theorem dX3_pass_14 : decode cX3_pass 14 = .ok (.ldc 133, 2) := by decide +kernel
theorem dX3_pass_16 : decode cX3_pass 16 = .ok (.invokespecial 135, 3) := by decide +kernel
theorem dX3_pass_19 : decode cX3_pass 19 = .ok (.athrow, 1) := by decide +kernel
theorem dX3_pass_20 : decode cX3_pass 20 = .ok (.aload_n 0, 1) := by decide +kernel
theorem dX3_pass_21 : decode cX3_pass 21 = .ok (.getfield 19, 3) := by decide +kernel
theorem dX3_pass_24 : decode cX3_pass 24 = .ok (.aload_n 0, 1) := by decide +kernel
theorem dX3_pass_25 : decode cX3_pass 25 = .ok (.getfield 10, 3) := by decide +kernel
theorem dX3_pass_28 : decode cX3_pass 28 = .ok (.invokevirtual 38, 3) := by decide +kernel
theorem dX3_pass_31 : decode cX3_pass 31 = .ok (.aload_n 0, 1) := by decide +kernel
theorem dX3_pass_32 : decode cX3_pass 32 = .ok (.getfield 10, 3) := by decide +kernel
theorem dX3_pass_35 : decode cX3_pass 35 = .ok (.iload_n 1, 1) := by decide +kernel
theorem dX3_pass_36 : decode cX3_pass 36 = .ok (.invokevirtual 136, 3) := by decide +kernel
theorem dX3_pass_39 : decode cX3_pass 39 = .ok (.ireturn, 1) := by decide +kernel
theorem dX3_envelopes_0 : decode cX3_envelopes 0 = .ok (.aload_n 0, 1) := by decide +kernel
theorem dX3_envelopes_1 : decode cX3_envelopes 1 = .ok (.getfield 10, 3) := by decide +kernel
theorem dX3_envelopes_4 : decode cX3_envelopes 4 = .ok (.getfield 139, 3) := by decide +kernel
theorem dX3_envelopes_7 : decode cX3_envelopes 7 = .ok (.ireturn, 1) := by decide +kernel
theorem dX3_envelope_0 : decode cX3_envelope 0 = .ok (.iload_n 2, 1) := by decide +kernel
theorem dX3_envelope_1 : decode cX3_envelope 1 = .ok (.iconst 0, 1) := by decide +kernel
theorem dX3_envelope_2 : decode cX3_envelope 2 = .ok (.iconst 3, 1) := by decide +kernel
theorem dX3_envelope_3 : decode cX3_envelope 3 = .ok (.invokestatic 96, 3) := by decide +kernel
theorem dX3_envelope_6 : decode cX3_envelope 6 = .ok (.ifCond .eq 11, 3) := by decide +kernel
theorem dX3_envelope_9 : decode cX3_envelope 9 = .ok (.aload_n 0, 1) := by decide +kernel
theorem dX3_envelope_10 : decode cX3_envelope 10 = .ok (.iload_n 1, 1) := by decide +kernel
theorem dX3_envelope_11 : decode cX3_envelope 11 = .ok (.invokevirtual 142, 3) := by decide +kernel
theorem dX3_envelope_14 : decode cX3_envelope 14 = .ok (.goto 4, 3) := by decide +kernel
theorem dX3_envelope_17 : decode cX3_envelope 17 = .ok (.iconst 1, 1) := by decide +kernel
theorem dX3_envelope_18 : decode cX3_envelope 18 = .ok (.invokestatic 34, 3) := by decide +kernel
theorem dX3_envelope_21 : decode cX3_envelope 21 = .ok (.aload_n 0, 1) := by decide +kernel
theorem dX3_envelope_22 : decode cX3_envelope 22 = .ok (.getfield 10, 3) := by decide +kernel
theorem dX3_envelope_25 : decode cX3_envelope 25 = .ok (.iload_n 1, 1) := by decide +kernel
theorem dX3_envelope_26 : decode cX3_envelope 26 = .ok (.iload_n 2, 1) := by decide +kernel
theorem dX3_envelope_27 : decode cX3_envelope 27 = .ok (.invokevirtual 145, 3) := by decide +kernel
theorem dX3_envelope_30 : decode cX3_envelope 30 = .ok (.ireturn, 1) := by decide +kernel
theorem dX3_letter_0 : decode cX3_letter 0 = .ok (.iload_n 1, 1) := by decide +kernel
theorem dX3_letter_1 : decode cX3_letter 1 = .ok (.invokestatic 148, 3) := by decide +kernel
theorem dX3_letter_4 : decode cX3_letter 4 = .ok (.invokestatic 34, 3) := by decide +kernel
theorem dX3_letter_7 : decode cX3_letter 7 = .ok (.aload_n 0, 1) := by decide +kernel
theorem dX3_letter_8 : decode cX3_letter 8 = .ok (.getfield 10, 3) := by decide +kernel
theorem dX3_letter_11 : decode cX3_letter 11 = .ok (.getfield 151, 3) := by decide +kernel
theorem dX3_letter_14 : decode cX3_letter 14 = .ok (.iload_n 1, 1) := by decide +kernel
theorem dX3_letter_15 : decode cX3_letter 15 = .ok (.invokestatic 58, 3) := by decide +kernel
theorem dX3_letter_18 : decode cX3_letter 18 = .ok (.ireturn, 1) := by decide +kernel
theorem dX3_lastAnswer_0 : decode cX3_lastAnswer 0 = .ok (.aload_n 0, 1) := by decide +kernel
theorem dX3_lastAnswer_1 : decode cX3_lastAnswer 1 = .ok (.getfield 10, 3) := by decide +kernel
theorem dX3_lastAnswer_4 : decode cX3_lastAnswer 4 = .ok (.getfield 154, 3) := by decide +kernel
theorem dX3_lastAnswer_7 : decode cX3_lastAnswer 7 = .ok (.ireturn, 1) := by decide +kernel
theorem dX3_count_0 : decode cX3_count 0 = .ok (.iload_n 1, 1) := by decide +kernel
theorem dX3_count_1 : decode cX3_count 1 = .ok (.iconst 0, 1) := by decide +kernel
theorem dX3_count_2 : decode cX3_count 2 = .ok (.iconst 4, 1) := by decide +kernel
theorem dX3_count_3 : decode cX3_count 3 = .ok (.invokestatic 96, 3) := by decide +kernel
theorem dX3_count_6 : decode cX3_count 6 = .ok (.ifCond .eq 7, 3) := by decide +kernel
theorem dX3_count_9 : decode cX3_count 9 = .ok (.iconst 0, 1) := by decide +kernel
theorem dX3_count_10 : decode cX3_count 10 = .ok (.goto 4, 3) := by decide +kernel
theorem dX3_count_13 : decode cX3_count 13 = .ok (.iconst 1, 1) := by decide +kernel
theorem dX3_count_14 : decode cX3_count 14 = .ok (.invokestatic 34, 3) := by decide +kernel
theorem dX3_count_17 : decode cX3_count 17 = .ok (.aload_n 0, 1) := by decide +kernel
theorem dX3_count_18 : decode cX3_count 18 = .ok (.getfield 10, 3) := by decide +kernel
theorem dX3_count_21 : decode cX3_count 21 = .ok (.getfield 157, 3) := by decide +kernel
theorem dX3_count_24 : decode cX3_count 24 = .ok (.iload_n 1, 1) := by decide +kernel
theorem dX3_count_25 : decode cX3_count 25 = .ok (.invokestatic 58, 3) := by decide +kernel
theorem dX3_count_28 : decode cX3_count 28 = .ok (.ireturn, 1) := by decide +kernel
theorem dX3_deliveredShare_0 : decode cX3_deliveredShare 0 = .ok (.aload_n 0, 1) := by decide +kernel
theorem dX3_deliveredShare_1 : decode cX3_deliveredShare 1 = .ok (.getfield 10, 3) := by decide +kernel
theorem dX3_deliveredShare_4 : decode cX3_deliveredShare 4 = .ok (.getfield 157, 3) := by decide +kernel
theorem dX3_deliveredShare_7 : decode cX3_deliveredShare 7 = .ok (.iconst 0, 1) := by decide +kernel
theorem dX3_deliveredShare_8 : decode cX3_deliveredShare 8 = .ok (.invokestatic 58, 3) := by decide +kernel
theorem dX3_deliveredShare_11 : decode cX3_deliveredShare 11 = .ok (.istore_n 1, 1) := by decide +kernel
theorem dX3_deliveredShare_12 : decode cX3_deliveredShare 12 = .ok (.iload_n 1, 1) := by decide +kernel
theorem dX3_deliveredShare_13 : decode cX3_deliveredShare 13 = .ok (.ifCond .ne 5, 3) := by decide +kernel
theorem dX3_deliveredShare_16 : decode cX3_deliveredShare 16 = .ok (.dconst 1, 1) := by decide +kernel
theorem dX3_deliveredShare_17 : decode cX3_deliveredShare 17 = .ok (.dreturn, 1) := by decide +kernel
theorem dX3_deliveredShare_18 : decode cX3_deliveredShare 18 = .ok (.aload_n 0, 1) := by decide +kernel
theorem dX3_deliveredShare_19 : decode cX3_deliveredShare 19 = .ok (.getfield 10, 3) := by decide +kernel
theorem dX3_deliveredShare_22 : decode cX3_deliveredShare 22 = .ok (.getfield 157, 3) := by decide +kernel
theorem dX3_deliveredShare_25 : decode cX3_deliveredShare 25 = .ok (.iconst 1, 1) := by decide +kernel
theorem dX3_deliveredShare_26 : decode cX3_deliveredShare 26 = .ok (.invokestatic 58, 3) := by decide +kernel
theorem dX3_deliveredShare_29 : decode cX3_deliveredShare 29 = .ok (.i2d, 1) := by decide +kernel
theorem dX3_deliveredShare_30 : decode cX3_deliveredShare 30 = .ok (.iload_n 1, 1) := by decide +kernel
theorem dX3_deliveredShare_31 : decode cX3_deliveredShare 31 = .ok (.i2d, 1) := by decide +kernel
theorem dX3_deliveredShare_32 : decode cX3_deliveredShare 32 = .ok (.ddiv, 1) := by decide +kernel
theorem dX3_deliveredShare_33 : decode cX3_deliveredShare 33 = .ok (.dreturn, 1) := by decide +kernel
theorem dX3_lostIfClosed_0 : decode cX3_lostIfClosed 0 = .ok (.iload_n 1, 1) := by decide +kernel
theorem dX3_lostIfClosed_1 : decode cX3_lostIfClosed 1 = .ok (.invokestatic 30, 3) := by decide +kernel
theorem dX3_lostIfClosed_4 : decode cX3_lostIfClosed 4 = .ok (.invokestatic 34, 3) := by decide +kernel
theorem dX3_lostIfClosed_7 : decode cX3_lostIfClosed 7 = .ok (.aload_n 0, 1) := by decide +kernel
theorem dX3_lostIfClosed_8 : decode cX3_lostIfClosed 8 = .ok (.getfield 10, 3) := by decide +kernel
theorem dX3_lostIfClosed_11 : decode cX3_lostIfClosed 11 = .ok (.iload_n 1, 1) := by decide +kernel
theorem dX3_lostIfClosed_12 : decode cX3_lostIfClosed 12 = .ok (.invokevirtual 160, 3) := by decide +kernel
theorem dX3_lostIfClosed_15 : decode cX3_lostIfClosed 15 = .ok (.ireturn, 1) := by decide +kernel
theorem dX3_ticksTo_0 : decode cX3_ticksTo 0 = .ok (.aload_n 0, 1) := by decide +kernel
theorem dX3_ticksTo_1 : decode cX3_ticksTo 1 = .ok (.iload_n 1, 1) := by decide +kernel
theorem dX3_ticksTo_2 : decode cX3_ticksTo 2 = .ok (.invokevirtual 142, 3) := by decide +kernel
theorem dX3_ticksTo_5 : decode cX3_ticksTo 5 = .ok (.invokestatic 34, 3) := by decide +kernel
theorem dX3_ticksTo_8 : decode cX3_ticksTo 8 = .ok (.aload_n 0, 1) := by decide +kernel
theorem dX3_ticksTo_9 : decode cX3_ticksTo 9 = .ok (.getfield 10, 3) := by decide +kernel
theorem dX3_ticksTo_12 : decode cX3_ticksTo 12 = .ok (.iload_n 1, 1) := by decide +kernel
theorem dX3_ticksTo_13 : decode cX3_ticksTo 13 = .ok (.aload_n 0, 1) := by decide +kernel
theorem dX3_ticksTo_14 : decode cX3_ticksTo 14 = .ok (.getfield 10, 3) := by decide +kernel
theorem dX3_ticksTo_17 : decode cX3_ticksTo 17 = .ok (.getfield 163, 3) := by decide +kernel
theorem dX3_ticksTo_20 : decode cX3_ticksTo 20 = .ok (.invokevirtual 166, 3) := by decide +kernel
theorem dX3_ticksTo_23 : decode cX3_ticksTo 23 = .ok (.ireturn, 1) := by decide +kernel
theorem dX3_leastWork_0 : decode cX3_leastWork 0 = .ok (.iload_n 1, 1) := by decide +kernel
theorem dX3_leastWork_1 : decode cX3_leastWork 1 = .ok (.iconst 1, 1) := by decide +kernel
theorem dX3_leastWork_2 : decode cX3_leastWork 2 = .ok (.iconst 3, 1) := by decide +kernel
theorem dX3_leastWork_3 : decode cX3_leastWork 3 = .ok (.invokestatic 96, 3) := by decide +kernel
theorem dX3_leastWork_6 : decode cX3_leastWork 6 = .ok (.ifCond .eq 7, 3) := by decide +kernel
theorem dX3_leastWork_9 : decode cX3_leastWork 9 = .ok (.iconst 0, 1) := by decide +kernel
theorem dX3_leastWork_10 : decode cX3_leastWork 10 = .ok (.goto 4, 3) := by decide +kernel
theorem dX3_leastWork_13 : decode cX3_leastWork 13 = .ok (.iconst 1, 1) := by decide +kernel
theorem dX3_leastWork_14 : decode cX3_leastWork 14 = .ok (.invokestatic 34, 3) := by decide +kernel
theorem dX3_leastWork_17 : decode cX3_leastWork 17 = .ok (.aload_n 0, 1) := by decide +kernel
theorem dX3_leastWork_18 : decode cX3_leastWork 18 = .ok (.getfield 10, 3) := by decide +kernel
theorem dX3_leastWork_21 : decode cX3_leastWork 21 = .ok (.iload_n 1, 1) := by decide +kernel
theorem dX3_leastWork_22 : decode cX3_leastWork 22 = .ok (.invokevirtual 169, 3) := by decide +kernel
theorem dX3_leastWork_25 : decode cX3_leastWork 25 = .ok (.ireturn, 1) := by decide +kernel
theorem dX3_append_0 : decode cX3_append 0 = .ok (.iload_n 1, 1) := by decide +kernel
theorem dX3_append_1 : decode cX3_append 1 = .ok (.bipush 33, 2) := by decide +kernel
theorem dX3_append_3 : decode cX3_append 3 = .ok (.bipush 126, 2) := by decide +kernel
theorem dX3_append_5 : decode cX3_append 5 = .ok (.invokestatic 96, 3) := by decide +kernel
theorem dX3_append_8 : decode cX3_append 8 = .ok (.ifCond .ne 13, 3) := by decide +kernel
theorem dX3_append_11 : decode cX3_append 11 = .ok (.new 131, 3) := by decide +kernel
theorem dX3_append_14 : decode cX3_append 14 = .ok (.dup, 1) := by decide +kernel
theorem dX3_append_15 : decode cX3_append 15 = .ok (.ldc 172, 2) := by decide +kernel
theorem dX3_append_17 : decode cX3_append 17 = .ok (.invokespecial 135, 3) := by decide +kernel
theorem dX3_append_20 : decode cX3_append 20 = .ok (.athrow, 1) := by decide +kernel
theorem dX3_append_21 : decode cX3_append 21 = .ok (.aload_n 0, 1) := by decide +kernel
theorem dX3_append_22 : decode cX3_append 22 = .ok (.getfield 26, 3) := by decide +kernel
theorem dX3_append_25 : decode cX3_append 25 = .ok (.getfield 174, 3) := by decide +kernel
theorem dX3_append_28 : decode cX3_append 28 = .ok (.bipush 60, 2) := by decide +kernel
theorem dX3_append_30 : decode cX3_append 30 = .ok (.if_icmp .lt 13, 3) := by decide +kernel
theorem dX3_append_33 : decode cX3_append 33 = .ok (.new 86, 3) := by decide +kernel
theorem dX3_append_36 : decode cX3_append 36 = .ok (.dup, 1) := by decide +kernel
theorem dX3_append_37 : decode cX3_append 37 = .ok (.ldc 177, 2) := by decide +kernel
theorem dX3_append_39 : decode cX3_append 39 = .ok (.invokespecial 90, 3) := by decide +kernel
theorem dX3_append_42 : decode cX3_append 42 = .ok (.athrow, 1) := by decide +kernel
theorem dX3_append_43 : decode cX3_append 43 = .ok (.aload_n 0, 1) := by decide +kernel
theorem dX3_append_44 : decode cX3_append 44 = .ok (.getfield 26, 3) := by decide +kernel
theorem dX3_append_47 : decode cX3_append 47 = .ok (.iload_n 1, 1) := by decide +kernel
theorem dX3_append_48 : decode cX3_append 48 = .ok (.invokevirtual 179, 3) := by decide +kernel
theorem dX3_append_51 : decode cX3_append 51 = .ok (.aload_n 0, 1) := by decide +kernel
theorem dX3_append_52 : decode cX3_append 52 = .ok (.getfield 26, 3) := by decide +kernel
theorem dX3_append_55 : decode cX3_append 55 = .ok (.getfield 174, 3) := by decide +kernel
theorem dX3_append_58 : decode cX3_append 58 = .ok (.ireturn, 1) := by decide +kernel
theorem dX3_clearText_0 : decode cX3_clearText 0 = .ok (.aload_n 0, 1) := by decide +kernel
theorem dX3_clearText_1 : decode cX3_clearText 1 = .ok (.getfield 26, 3) := by decide +kernel
theorem dX3_clearText_4 : decode cX3_clearText 4 = .ok (.invokevirtual 182, 3) := by decide +kernel
theorem dX3_clearText_7 : decode cX3_clearText 7 = .ok (.ireturn, 1) := by decide +kernel
theorem dX3_firstError_0 : decode cX3_firstError 0 = .ok (.aload_n 0, 1) := by decide +kernel
theorem dX3_firstError_1 : decode cX3_firstError 1 = .ok (.getfield 26, 3) := by decide +kernel
theorem dX3_firstError_4 : decode cX3_firstError 4 = .ok (.invokevirtual 186, 3) := by decide +kernel
theorem dX3_firstError_7 : decode cX3_firstError 7 = .ok (.ireturn, 1) := by decide +kernel
theorem dX3_run_0 : decode cX3_run 0 = .ok (.aload_n 0, 1) := by decide +kernel
theorem dX3_run_1 : decode cX3_run 1 = .ok (.getfield 26, 3) := by decide +kernel
theorem dX3_run_4 : decode cX3_run 4 = .ok (.invokevirtual 189, 3) := by decide +kernel
theorem dX3_run_7 : decode cX3_run 7 = .ok (.ifCond .ne 13, 3) := by decide +kernel
theorem dX3_run_10 : decode cX3_run 10 = .ok (.new 131, 3) := by decide +kernel
theorem dX3_run_13 : decode cX3_run 13 = .ok (.dup, 1) := by decide +kernel
theorem dX3_run_14 : decode cX3_run 14 = .ok (.ldc 193, 2) := by decide +kernel
theorem dX3_run_16 : decode cX3_run 16 = .ok (.invokespecial 135, 3) := by decide +kernel
theorem dX3_run_19 : decode cX3_run 19 = .ok (.athrow, 1) := by decide +kernel
theorem dX3_run_20 : decode cX3_run 20 = .ok (.aload_n 0, 1) := by decide +kernel
theorem dX3_run_21 : decode cX3_run 21 = .ok (.getfield 19, 3) := by decide +kernel
theorem dX3_run_24 : decode cX3_run 24 = .ok (.aload_n 0, 1) := by decide +kernel
theorem dX3_run_25 : decode cX3_run 25 = .ok (.getfield 10, 3) := by decide +kernel
theorem dX3_run_28 : decode cX3_run 28 = .ok (.invokevirtual 38, 3) := by decide +kernel
theorem dX3_run_31 : decode cX3_run 31 = .ok (.iconst 0, 1) := by decide +kernel
theorem dX3_run_32 : decode cX3_run 32 = .ok (.istore_n 1, 1) := by decide +kernel
theorem dX3_run_33 : decode cX3_run 33 = .ok (.iconst 0, 1) := by decide +kernel
theorem dX3_run_34 : decode cX3_run 34 = .ok (.istore_n 2, 1) := by decide +kernel
theorem dX3_run_35 : decode cX3_run 35 = .ok (.iconst 1, 1) := by decide +kernel
theorem dX3_run_36 : decode cX3_run 36 = .ok (.istore_n 3, 1) := by decide +kernel
theorem dX3_run_37 : decode cX3_run 37 = .ok (.iload_n 3, 1) := by decide +kernel
theorem dX3_run_38 : decode cX3_run 38 = .ok (.aload_n 0, 1) := by decide +kernel
theorem dX3_run_39 : decode cX3_run 39 = .ok (.getfield 26, 3) := by decide +kernel
theorem dX3_run_42 : decode cX3_run 42 = .ok (.getfield 174, 3) := by decide +kernel
theorem dX3_run_45 : decode cX3_run 45 = .ok (.if_icmp .gt 52, 3) := by decide +kernel
theorem dX3_run_48 : decode cX3_run 48 = .ok (.iload_n 3, 1) := by decide +kernel
theorem dX3_run_49 : decode cX3_run 49 = .ok (.aload_n 0, 1) := by decide +kernel
theorem dX3_run_50 : decode cX3_run 50 = .ok (.getfield 26, 3) := by decide +kernel
theorem dX3_run_53 : decode cX3_run 53 = .ok (.getfield 174, 3) := by decide +kernel
theorem dX3_run_56 : decode cX3_run 56 = .ok (.if_icmp .eq 16, 3) := by decide +kernel
theorem dX3_run_59 : decode cX3_run 59 = .ok (.aload_n 0, 1) := by decide +kernel
theorem dX3_run_60 : decode cX3_run 60 = .ok (.getfield 26, 3) := by decide +kernel
theorem dX3_run_63 : decode cX3_run 63 = .ok (.iload_n 3, 1) := by decide +kernel
theorem dX3_run_64 : decode cX3_run 64 = .ok (.invokevirtual 195, 3) := by decide +kernel
theorem dX3_run_67 : decode cX3_run 67 = .ok (.bipush 59, 2) := by decide +kernel
theorem dX3_run_69 : decode cX3_run 69 = .ok (.if_icmp .ne 22, 3) := by decide +kernel
theorem dX3_run_72 : decode cX3_run 72 = .ok (.aload_n 0, 1) := by decide +kernel
theorem dX3_run_73 : decode cX3_run 73 = .ok (.iload_n 2, 1) := by decide +kernel
theorem dX3_run_74 : decode cX3_run 74 = .ok (.iload_n 3, 1) := by decide +kernel
theorem dX3_run_75 : decode cX3_run 75 = .ok (.invokevirtual 198, 3) := by decide +kernel
theorem dX3_run_78 : decode cX3_run 78 = .ok (.ifCond .ne 6, 3) := by decide +kernel
theorem dX3_run_81 : decode cX3_run 81 = .ok (.goto 16, 3) := by decide +kernel
theorem dX3_run_84 : decode cX3_run 84 = .ok (.iinc 1 1, 3) := by decide +kernel
theorem dX3_run_87 : decode cX3_run 87 = .ok (.iload_n 3, 1) := by decide +kernel
theorem dX3_run_88 : decode cX3_run 88 = .ok (.iconst 1, 1) := by decide +kernel
theorem dX3_run_89 : decode cX3_run 89 = .ok (.iadd, 1) := by decide +kernel
theorem dX3_run_90 : decode cX3_run 90 = .ok (.istore_n 2, 1) := by decide +kernel
theorem dX3_run_91 : decode cX3_run 91 = .ok (.iinc 3 1, 3) := by decide +kernel
theorem dX3_run_94 : decode cX3_run 94 = .ok (.goto (-57), 3) := by decide +kernel
theorem dX3_run_97 : decode cX3_run 97 = .ok (.aload_n 0, 1) := by decide +kernel
theorem dX3_run_98 : decode cX3_run 98 = .ok (.getfield 26, 3) := by decide +kernel
theorem dX3_run_101 : decode cX3_run 101 = .ok (.invokevirtual 182, 3) := by decide +kernel
theorem dX3_run_104 : decode cX3_run 104 = .ok (.pop, 1) := by decide +kernel
theorem dX3_run_105 : decode cX3_run 105 = .ok (.iload_n 1, 1) := by decide +kernel
theorem dX3_run_106 : decode cX3_run 106 = .ok (.ireturn, 1) := by decide +kernel
theorem dX3_undo_0 : decode cX3_undo 0 = .ok (.aload_n 0, 1) := by decide +kernel
theorem dX3_undo_1 : decode cX3_undo 1 = .ok (.getfield 19, 3) := by decide +kernel
theorem dX3_undo_4 : decode cX3_undo 4 = .ok (.getfield 202, 3) := by decide +kernel
theorem dX3_undo_7 : decode cX3_undo 7 = .ok (.ifCond .ne 13, 3) := by decide +kernel
theorem dX3_undo_10 : decode cX3_undo 10 = .ok (.new 86, 3) := by decide +kernel
theorem dX3_undo_13 : decode cX3_undo 13 = .ok (.dup, 1) := by decide +kernel
theorem dX3_undo_14 : decode cX3_undo 14 = .ok (.ldc 205, 2) := by decide +kernel
theorem dX3_undo_16 : decode cX3_undo 16 = .ok (.invokespecial 90, 3) := by decide +kernel
theorem dX3_undo_19 : decode cX3_undo 19 = .ok (.athrow, 1) := by decide +kernel
theorem dX3_undo_20 : decode cX3_undo 20 = .ok (.aload_n 0, 1) := by decide +kernel
theorem dX3_undo_21 : decode cX3_undo 21 = .ok (.getfield 19, 3) := by decide +kernel
theorem dX3_undo_24 : decode cX3_undo 24 = .ok (.aload_n 0, 1) := by decide +kernel
theorem dX3_undo_25 : decode cX3_undo 25 = .ok (.getfield 10, 3) := by decide +kernel
theorem dX3_undo_28 : decode cX3_undo 28 = .ok (.invokevirtual 207, 3) := by decide +kernel
theorem dX3_undo_31 : decode cX3_undo 31 = .ok (.aload_n 0, 1) := by decide +kernel
theorem dX3_undo_32 : decode cX3_undo 32 = .ok (.getfield 19, 3) := by decide +kernel
theorem dX3_undo_35 : decode cX3_undo 35 = .ok (.getfield 202, 3) := by decide +kernel
theorem dX3_undo_38 : decode cX3_undo 38 = .ok (.ireturn, 1) := by decide +kernel
theorem dX3_savedStates_0 : decode cX3_savedStates 0 = .ok (.aload_n 0, 1) := by decide +kernel
theorem dX3_savedStates_1 : decode cX3_savedStates 1 = .ok (.getfield 19, 3) := by decide +kernel
theorem dX3_savedStates_4 : decode cX3_savedStates 4 = .ok (.getfield 202, 3) := by decide +kernel
theorem dX3_savedStates_7 : decode cX3_savedStates 7 = .ok (.ireturn, 1) := by decide +kernel
theorem dX3_digest_0 : decode cX3_digest 0 = .ok (.ldc2_w 210, 3) := by decide +kernel
theorem dX3_digest_3 : decode cX3_digest 3 = .ok (.lstore_n 1, 1) := by decide +kernel
theorem dX3_digest_4 : decode cX3_digest 4 = .ok (.lload_n 1, 1) := by decide +kernel
theorem dX3_digest_5 : decode cX3_digest 5 = .ok (.aload_n 0, 1) := by decide +kernel
theorem dX3_digest_6 : decode cX3_digest 6 = .ok (.getfield 10, 3) := by decide +kernel
theorem dX3_digest_9 : decode cX3_digest 9 = .ok (.getfield 79, 3) := by decide +kernel
theorem dX3_digest_12 : decode cX3_digest 12 = .ok (.invokestatic 212, 3) := by decide +kernel
theorem dX3_digest_15 : decode cX3_digest 15 = .ok (.lstore_n 1, 1) := by decide +kernel
theorem dX3_digest_16 : decode cX3_digest 16 = .ok (.lload_n 1, 1) := by decide +kernel
theorem dX3_digest_17 : decode cX3_digest 17 = .ok (.aload_n 0, 1) := by decide +kernel
theorem dX3_digest_18 : decode cX3_digest 18 = .ok (.getfield 10, 3) := by decide +kernel
theorem dX3_digest_21 : decode cX3_digest 21 = .ok (.getfield 139, 3) := by decide +kernel
theorem dX3_digest_24 : decode cX3_digest 24 = .ok (.invokestatic 212, 3) := by decide +kernel
theorem dX3_digest_27 : decode cX3_digest 27 = .ok (.lstore_n 1, 1) := by decide +kernel
theorem dX3_digest_28 : decode cX3_digest 28 = .ok (.lload_n 1, 1) := by decide +kernel
theorem dX3_digest_29 : decode cX3_digest 29 = .ok (.aload_n 0, 1) := by decide +kernel
theorem dX3_digest_30 : decode cX3_digest 30 = .ok (.getfield 10, 3) := by decide +kernel
theorem dX3_digest_33 : decode cX3_digest 33 = .ok (.getfield 154, 3) := by decide +kernel
theorem dX3_digest_36 : decode cX3_digest 36 = .ok (.invokestatic 212, 3) := by decide +kernel
theorem dX3_digest_39 : decode cX3_digest 39 = .ok (.lstore_n 1, 1) := by decide +kernel
theorem dX3_digest_40 : decode cX3_digest 40 = .ok (.lload_n 1, 1) := by decide +kernel
theorem dX3_digest_41 : decode cX3_digest 41 = .ok (.aload_n 0, 1) := by decide +kernel
theorem dX3_digest_42 : decode cX3_digest 42 = .ok (.getfield 10, 3) := by decide +kernel
theorem dX3_digest_45 : decode cX3_digest 45 = .ok (.getfield 157, 3) := by decide +kernel
theorem dX3_digest_48 : decode cX3_digest 48 = .ok (.invokestatic 216, 3) := by decide +kernel
theorem dX3_digest_51 : decode cX3_digest 51 = .ok (.lstore_n 1, 1) := by decide +kernel
theorem dX3_digest_52 : decode cX3_digest 52 = .ok (.aload_n 0, 1) := by decide +kernel
theorem dX3_digest_53 : decode cX3_digest 53 = .ok (.lload_n 1, 1) := by decide +kernel
theorem dX3_digest_54 : decode cX3_digest 54 = .ok (.invokevirtual 220, 3) := by decide +kernel
theorem dX3_digest_57 : decode cX3_digest 57 = .ok (.lstore_n 1, 1) := by decide +kernel
theorem dX3_digest_58 : decode cX3_digest 58 = .ok (.aload_n 0, 1) := by decide +kernel
theorem dX3_digest_59 : decode cX3_digest 59 = .ok (.lload_n 1, 1) := by decide +kernel
theorem dX3_digest_60 : decode cX3_digest 60 = .ok (.invokevirtual 224, 3) := by decide +kernel
theorem dX3_digest_63 : decode cX3_digest 63 = .ok (.lstore_n 1, 1) := by decide +kernel
theorem dX3_digest_64 : decode cX3_digest 64 = .ok (.aload_n 0, 1) := by decide +kernel
theorem dX3_digest_65 : decode cX3_digest 65 = .ok (.lload_n 1, 1) := by decide +kernel
theorem dX3_digest_66 : decode cX3_digest 66 = .ok (.invokevirtual 227, 3) := by decide +kernel
theorem dX3_digest_69 : decode cX3_digest 69 = .ok (.lstore_n 1, 1) := by decide +kernel
theorem dX3_digest_70 : decode cX3_digest 70 = .ok (.lload_n 1, 1) := by decide +kernel
theorem dX3_digest_71 : decode cX3_digest 71 = .ok (.aload_n 0, 1) := by decide +kernel
theorem dX3_digest_72 : decode cX3_digest 72 = .ok (.getfield 10, 3) := by decide +kernel
theorem dX3_digest_75 : decode cX3_digest 75 = .ok (.getfield 151, 3) := by decide +kernel
theorem dX3_digest_78 : decode cX3_digest 78 = .ok (.invokestatic 216, 3) := by decide +kernel
theorem dX3_digest_81 : decode cX3_digest 81 = .ok (.lstore_n 1, 1) := by decide +kernel
theorem dX3_digest_82 : decode cX3_digest 82 = .ok (.iconst 1, 1) := by decide +kernel
theorem dX3_digest_83 : decode cX3_digest 83 = .ok (.istore_n 3, 1) := by decide +kernel
theorem dX3_digest_84 : decode cX3_digest 84 = .ok (.iload_n 3, 1) := by decide +kernel
theorem dX3_digest_85 : decode cX3_digest 85 = .ok (.iconst 3, 1) := by decide +kernel
theorem dX3_digest_86 : decode cX3_digest 86 = .ok (.if_icmp .gt 22, 3) := by decide +kernel
theorem dX3_digest_89 : decode cX3_digest 89 = .ok (.lload_n 1, 1) := by decide +kernel
theorem dX3_digest_90 : decode cX3_digest 90 = .ok (.aload_n 0, 1) := by decide +kernel
theorem dX3_digest_91 : decode cX3_digest 91 = .ok (.getfield 10, 3) := by decide +kernel
theorem dX3_digest_94 : decode cX3_digest 94 = .ok (.iload_n 3, 1) := by decide +kernel
theorem dX3_digest_95 : decode cX3_digest 95 = .ok (.invokevirtual 169, 3) := by decide +kernel
theorem dX3_digest_98 : decode cX3_digest 98 = .ok (.invokestatic 212, 3) := by decide +kernel
theorem dX3_digest_101 : decode cX3_digest 101 = .ok (.lstore_n 1, 1) := by decide +kernel
theorem dX3_digest_102 : decode cX3_digest 102 = .ok (.iinc 3 1, 3) := by decide +kernel
theorem dX3_digest_105 : decode cX3_digest 105 = .ok (.goto (-21), 3) := by decide +kernel
theorem dX3_digest_108 : decode cX3_digest 108 = .ok (.lload_n 1, 1) := by decide +kernel
theorem dX3_digest_109 : decode cX3_digest 109 = .ok (.lreturn, 1) := by decide +kernel
theorem dX3_refuse_0 : decode cX3_refuse 0 = .ok (.iload_n 0, 1) := by decide +kernel
theorem dX3_refuse_1 : decode cX3_refuse 1 = .ok (.iconst 1, 1) := by decide +kernel
theorem dX3_refuse_2 : decode cX3_refuse 2 = .ok (.if_icmp .ne 13, 3) := by decide +kernel
theorem dX3_refuse_5 : decode cX3_refuse 5 = .ok (.new 230, 3) := by decide +kernel
theorem dX3_refuse_8 : decode cX3_refuse 8 = .ok (.dup, 1) := by decide +kernel
theorem dX3_refuse_9 : decode cX3_refuse 9 = .ok (.ldc 232, 2) := by decide +kernel
theorem dX3_refuse_11 : decode cX3_refuse 11 = .ok (.invokespecial 234, 3) := by decide +kernel
theorem dX3_refuse_14 : decode cX3_refuse 14 = .ok (.athrow, 1) := by decide +kernel
theorem dX3_refuse_15 : decode cX3_refuse 15 = .ok (.iload_n 0, 1) := by decide +kernel
theorem dX3_refuse_16 : decode cX3_refuse 16 = .ok (.iconst 2, 1) := by decide +kernel
theorem dX3_refuse_17 : decode cX3_refuse 17 = .ok (.if_icmp .ne 13, 3) := by decide +kernel
theorem dX3_refuse_20 : decode cX3_refuse 20 = .ok (.new 131, 3) := by decide +kernel
theorem dX3_refuse_23 : decode cX3_refuse 23 = .ok (.dup, 1) := by decide +kernel
theorem dX3_refuse_24 : decode cX3_refuse 24 = .ok (.ldc 235, 2) := by decide +kernel
theorem dX3_refuse_26 : decode cX3_refuse 26 = .ok (.invokespecial 135, 3) := by decide +kernel
theorem dX3_refuse_29 : decode cX3_refuse 29 = .ok (.athrow, 1) := by decide +kernel
theorem dX3_refuse_30 : decode cX3_refuse 30 = .ok (.iload_n 0, 1) := by decide +kernel
theorem dX3_refuse_31 : decode cX3_refuse 31 = .ok (.iconst 3, 1) := by decide +kernel
theorem dX3_refuse_32 : decode cX3_refuse 32 = .ok (.if_icmp .ne 13, 3) := by decide +kernel
theorem dX3_refuse_35 : decode cX3_refuse 35 = .ok (.new 86, 3) := by decide +kernel
theorem dX3_refuse_38 : decode cX3_refuse 38 = .ok (.dup, 1) := by decide +kernel
theorem dX3_refuse_39 : decode cX3_refuse 39 = .ok (.ldc 237, 2) := by decide +kernel
theorem dX3_refuse_41 : decode cX3_refuse 41 = .ok (.invokespecial 90, 3) := by decide +kernel
theorem dX3_refuse_44 : decode cX3_refuse 44 = .ok (.athrow, 1) := by decide +kernel
theorem dX3_refuse_45 : decode cX3_refuse 45 = .ok (.return_, 1) := by decide +kernel
theorem dX3_innFault_0 : decode cX3_innFault 0 = .ok (.iload_n 0, 1) := by decide +kernel
theorem dX3_innFault_1 : decode cX3_innFault 1 = .ok (.iconst 0, 1) := by decide +kernel
theorem dX3_innFault_2 : decode cX3_innFault 2 = .ok (.bipush 7, 2) := by decide +kernel
theorem dX3_innFault_4 : decode cX3_innFault 4 = .ok (.invokestatic 96, 3) := by decide +kernel
theorem dX3_innFault_7 : decode cX3_innFault 7 = .ok (.ifCond .eq 7, 3) := by decide +kernel
theorem dX3_innFault_10 : decode cX3_innFault 10 = .ok (.iconst 0, 1) := by decide +kernel
theorem dX3_innFault_11 : decode cX3_innFault 11 = .ok (.goto 4, 3) := by decide +kernel
theorem dX3_innFault_14 : decode cX3_innFault 14 = .ok (.iconst 1, 1) := by decide +kernel
theorem dX3_innFault_15 : decode cX3_innFault 15 = .ok (.ireturn, 1) := by decide +kernel
theorem dX3_hallFault_0 : decode cX3_hallFault 0 = .ok (.iload_n 0, 1) := by decide +kernel
theorem dX3_hallFault_1 : decode cX3_hallFault 1 = .ok (.iconst 0, 1) := by decide +kernel
theorem dX3_hallFault_2 : decode cX3_hallFault 2 = .ok (.iconst 3, 1) := by decide +kernel
theorem dX3_hallFault_3 : decode cX3_hallFault 3 = .ok (.invokestatic 96, 3) := by decide +kernel
theorem dX3_hallFault_6 : decode cX3_hallFault 6 = .ok (.ifCond .eq 7, 3) := by decide +kernel
theorem dX3_hallFault_9 : decode cX3_hallFault 9 = .ok (.iconst 0, 1) := by decide +kernel
theorem dX3_hallFault_10 : decode cX3_hallFault 10 = .ok (.goto 4, 3) := by decide +kernel
theorem dX3_hallFault_13 : decode cX3_hallFault 13 = .ok (.iconst 1, 1) := by decide +kernel
theorem dX3_hallFault_14 : decode cX3_hallFault 14 = .ok (.ireturn, 1) := by decide +kernel
theorem dX3_roadFault_0 : decode cX3_roadFault 0 = .ok (.iload_n 1, 1) := by decide +kernel
theorem dX3_roadFault_1 : decode cX3_roadFault 1 = .ok (.iconst 0, 1) := by decide +kernel
theorem dX3_roadFault_2 : decode cX3_roadFault 2 = .ok (.aload_n 0, 1) := by decide +kernel
theorem dX3_roadFault_3 : decode cX3_roadFault 3 = .ok (.getfield 10, 3) := by decide +kernel
theorem dX3_roadFault_6 : decode cX3_roadFault 6 = .ok (.getfield 79, 3) := by decide +kernel
theorem dX3_roadFault_9 : decode cX3_roadFault 9 = .ok (.iconst 1, 1) := by decide +kernel
theorem dX3_roadFault_10 : decode cX3_roadFault 10 = .ok (.isub, 1) := by decide +kernel
theorem dX3_roadFault_11 : decode cX3_roadFault 11 = .ok (.invokestatic 96, 3) := by decide +kernel
theorem dX3_roadFault_14 : decode cX3_roadFault 14 = .ok (.ifCond .eq 7, 3) := by decide +kernel
theorem dX3_roadFault_17 : decode cX3_roadFault 17 = .ok (.iconst 0, 1) := by decide +kernel
theorem dX3_roadFault_18 : decode cX3_roadFault 18 = .ok (.goto 4, 3) := by decide +kernel
theorem dX3_roadFault_21 : decode cX3_roadFault 21 = .ok (.iconst 1, 1) := by decide +kernel
theorem dX3_roadFault_22 : decode cX3_roadFault 22 = .ok (.ireturn, 1) := by decide +kernel
theorem dX3_envelopeFault_0 : decode cX3_envelopeFault 0 = .ok (.iload_n 1, 1) := by decide +kernel
theorem dX3_envelopeFault_1 : decode cX3_envelopeFault 1 = .ok (.iconst 0, 1) := by decide +kernel
theorem dX3_envelopeFault_2 : decode cX3_envelopeFault 2 = .ok (.aload_n 0, 1) := by decide +kernel
theorem dX3_envelopeFault_3 : decode cX3_envelopeFault 3 = .ok (.getfield 10, 3) := by decide +kernel
theorem dX3_envelopeFault_6 : decode cX3_envelopeFault 6 = .ok (.getfield 139, 3) := by decide +kernel
theorem dX3_envelopeFault_9 : decode cX3_envelopeFault 9 = .ok (.iconst 1, 1) := by decide +kernel
theorem dX3_envelopeFault_10 : decode cX3_envelopeFault 10 = .ok (.isub, 1) := by decide +kernel
theorem dX3_envelopeFault_11 : decode cX3_envelopeFault 11 = .ok (.invokestatic 96, 3) := by decide +kernel
theorem dX3_envelopeFault_14 : decode cX3_envelopeFault 14 = .ok (.ifCond .eq 7, 3) := by decide +kernel
theorem dX3_envelopeFault_17 : decode cX3_envelopeFault 17 = .ok (.iconst 0, 1) := by decide +kernel
theorem dX3_envelopeFault_18 : decode cX3_envelopeFault 18 = .ok (.goto 4, 3) := by decide +kernel
theorem dX3_envelopeFault_21 : decode cX3_envelopeFault 21 = .ok (.iconst 1, 1) := by decide +kernel
theorem dX3_envelopeFault_22 : decode cX3_envelopeFault 22 = .ok (.ireturn, 1) := by decide +kernel
theorem dX3_innAndBodyFault_0 : decode cX3_innAndBodyFault 0 = .ok (.iload_n 0, 1) := by decide +kernel
theorem dX3_innAndBodyFault_1 : decode cX3_innAndBodyFault 1 = .ok (.invokestatic 30, 3) := by decide +kernel
theorem dX3_innAndBodyFault_4 : decode cX3_innAndBodyFault 4 = .ok (.ifCond .eq 5, 3) := by decide +kernel
theorem dX3_innAndBodyFault_7 : decode cX3_innAndBodyFault 7 = .ok (.iconst 1, 1) := by decide +kernel
theorem dX3_innAndBodyFault_8 : decode cX3_innAndBodyFault 8 = .ok (.ireturn, 1) := by decide +kernel
theorem dX3_innAndBodyFault_9 : decode cX3_innAndBodyFault 9 = .ok (.iload_n 1, 1) := by decide +kernel
theorem dX3_innAndBodyFault_10 : decode cX3_innAndBodyFault 10 = .ok (.invokestatic 239, 3) := by decide +kernel
theorem dX3_innAndBodyFault_13 : decode cX3_innAndBodyFault 13 = .ok (.ifCond .eq 7, 3) := by decide +kernel
theorem dX3_innAndBodyFault_16 : decode cX3_innAndBodyFault 16 = .ok (.iconst 0, 1) := by decide +kernel
theorem dX3_innAndBodyFault_17 : decode cX3_innAndBodyFault 17 = .ok (.goto 4, 3) := by decide +kernel
theorem dX3_innAndBodyFault_20 : decode cX3_innAndBodyFault 20 = .ok (.iconst 2, 1) := by decide +kernel
theorem dX3_innAndBodyFault_21 : decode cX3_innAndBodyFault 21 = .ok (.ireturn, 1) := by decide +kernel
theorem dX3_layFault_0 : decode cX3_layFault 0 = .ok (.iload_n 1, 1) := by decide +kernel
theorem dX3_layFault_1 : decode cX3_layFault 1 = .ok (.invokestatic 30, 3) := by decide +kernel
theorem dX3_layFault_4 : decode cX3_layFault 4 = .ok (.ifCond .ne 25, 3) := by decide +kernel
theorem dX3_layFault_7 : decode cX3_layFault 7 = .ok (.iload_n 2, 1) := by decide +kernel
theorem dX3_layFault_8 : decode cX3_layFault 8 = .ok (.invokestatic 30, 3) := by decide +kernel
theorem dX3_layFault_11 : decode cX3_layFault 11 = .ok (.ifCond .ne 18, 3) := by decide +kernel
theorem dX3_layFault_14 : decode cX3_layFault 14 = .ok (.iload_n 3, 1) := by decide +kernel
theorem dX3_layFault_15 : decode cX3_layFault 15 = .ok (.invokestatic 30, 3) := by decide +kernel
theorem dX3_layFault_18 : decode cX3_layFault 18 = .ok (.ifCond .ne 11, 3) := by decide +kernel
theorem dX3_layFault_21 : decode cX3_layFault 21 = .ok (.iload 4, 2) := by decide +kernel
theorem dX3_layFault_23 : decode cX3_layFault 23 = .ok (.invokestatic 148, 3) := by decide +kernel
theorem dX3_layFault_26 : decode cX3_layFault 26 = .ok (.ifCond .eq 5, 3) := by decide +kernel
theorem dX3_layFault_29 : decode cX3_layFault 29 = .ok (.iconst 1, 1) := by decide +kernel
theorem dX3_layFault_30 : decode cX3_layFault 30 = .ok (.ireturn, 1) := by decide +kernel
theorem dX3_layFault_31 : decode cX3_layFault 31 = .ok (.iload_n 1, 1) := by decide +kernel
theorem dX3_layFault_32 : decode cX3_layFault 32 = .ok (.iload_n 2, 1) := by decide +kernel
theorem dX3_layFault_33 : decode cX3_layFault 33 = .ok (.if_icmp .eq 13, 3) := by decide +kernel
theorem dX3_layFault_36 : decode cX3_layFault 36 = .ok (.iload_n 1, 1) := by decide +kernel
theorem dX3_layFault_37 : decode cX3_layFault 37 = .ok (.iload_n 3, 1) := by decide +kernel
theorem dX3_layFault_38 : decode cX3_layFault 38 = .ok (.if_icmp .eq 8, 3) := by decide +kernel
theorem dX3_layFault_41 : decode cX3_layFault 41 = .ok (.iload_n 2, 1) := by decide +kernel
theorem dX3_layFault_42 : decode cX3_layFault 42 = .ok (.iload_n 3, 1) := by decide +kernel
theorem dX3_layFault_43 : decode cX3_layFault 43 = .ok (.if_icmp .ne 5, 3) := by decide +kernel
theorem dX3_layFault_46 : decode cX3_layFault 46 = .ok (.iconst 2, 1) := by decide +kernel
theorem dX3_layFault_47 : decode cX3_layFault 47 = .ok (.ireturn, 1) := by decide +kernel
theorem dX3_layFault_48 : decode cX3_layFault 48 = .ok (.aload_n 0, 1) := by decide +kernel
theorem dX3_layFault_49 : decode cX3_layFault 49 = .ok (.getfield 10, 3) := by decide +kernel
theorem dX3_layFault_52 : decode cX3_layFault 52 = .ok (.iload_n 1, 1) := by decide +kernel
theorem dX3_layFault_53 : decode cX3_layFault 53 = .ok (.invokevirtual 42, 3) := by decide +kernel
theorem dX3_layFault_56 : decode cX3_layFault 56 = .ok (.ifCond .eq 29, 3) := by decide +kernel
theorem dX3_layFault_59 : decode cX3_layFault 59 = .ok (.aload_n 0, 1) := by decide +kernel
theorem dX3_layFault_60 : decode cX3_layFault 60 = .ok (.getfield 10, 3) := by decide +kernel
theorem dX3_layFault_63 : decode cX3_layFault 63 = .ok (.iload_n 2, 1) := by decide +kernel
theorem dX3_layFault_64 : decode cX3_layFault 64 = .ok (.invokevirtual 42, 3) := by decide +kernel
theorem dX3_layFault_67 : decode cX3_layFault 67 = .ok (.ifCond .eq 18, 3) := by decide +kernel
theorem dX3_layFault_70 : decode cX3_layFault 70 = .ok (.aload_n 0, 1) := by decide +kernel
theorem dX3_layFault_71 : decode cX3_layFault 71 = .ok (.getfield 10, 3) := by decide +kernel
theorem dX3_layFault_74 : decode cX3_layFault 74 = .ok (.iload_n 3, 1) := by decide +kernel
theorem dX3_layFault_75 : decode cX3_layFault 75 = .ok (.invokevirtual 42, 3) := by decide +kernel
theorem dX3_layFault_78 : decode cX3_layFault 78 = .ok (.ifCond .eq 7, 3) := by decide +kernel
theorem dX3_layFault_81 : decode cX3_layFault 81 = .ok (.iconst 1, 1) := by decide +kernel
theorem dX3_layFault_82 : decode cX3_layFault 82 = .ok (.goto 4, 3) := by decide +kernel
theorem dX3_layFault_85 : decode cX3_layFault 85 = .ok (.iconst 0, 1) := by decide +kernel
theorem dX3_layFault_86 : decode cX3_layFault 86 = .ok (.istore 5, 2) := by decide +kernel
theorem dX3_layFault_88 : decode cX3_layFault 88 = .ok (.iload 5, 2) := by decide +kernel
theorem dX3_layFault_90 : decode cX3_layFault 90 = .ok (.ifCond .eq 19, 3) := by decide +kernel
theorem dX3_layFault_93 : decode cX3_layFault 93 = .ok (.aload_n 0, 1) := by decide +kernel
theorem dX3_layFault_94 : decode cX3_layFault 94 = .ok (.getfield 10, 3) := by decide +kernel
theorem dX3_layFault_97 : decode cX3_layFault 97 = .ok (.getfield 79, 3) := by decide +kernel
theorem dX3_layFault_100 : decode cX3_layFault 100 = .ok (.bipush 6, 2) := by decide +kernel
theorem dX3_layFault_102 : decode cX3_layFault 102 = .ok (.if_icmp .ge 7, 3) := by decide +kernel
theorem dX3_layFault_105 : decode cX3_layFault 105 = .ok (.iconst 0, 1) := by decide +kernel
theorem dX3_layFault_106 : decode cX3_layFault 106 = .ok (.goto 4, 3) := by decide +kernel
theorem dX3_layFault_109 : decode cX3_layFault 109 = .ok (.iconst 3, 1) := by decide +kernel
theorem dX3_layFault_110 : decode cX3_layFault 110 = .ok (.ireturn, 1) := by decide +kernel
theorem dX3_sendFault_0 : decode cX3_sendFault 0 = .ok (.aload_n 0, 1) := by decide +kernel
theorem dX3_sendFault_1 : decode cX3_sendFault 1 = .ok (.iload_n 1, 1) := by decide +kernel
theorem dX3_sendFault_2 : decode cX3_sendFault 2 = .ok (.invokevirtual 100, 3) := by decide +kernel
theorem dX3_sendFault_5 : decode cX3_sendFault 5 = .ok (.ifCond .eq 5, 3) := by decide +kernel
theorem dX3_sendFault_8 : decode cX3_sendFault 8 = .ok (.iconst 1, 1) := by decide +kernel
theorem dX3_sendFault_9 : decode cX3_sendFault 9 = .ok (.ireturn, 1) := by decide +kernel
theorem dX3_sendFault_10 : decode cX3_sendFault 10 = .ok (.iload_n 2, 1) := by decide +kernel
theorem dX3_sendFault_11 : decode cX3_sendFault 11 = .ok (.invokestatic 239, 3) := by decide +kernel
theorem dX3_sendFault_14 : decode cX3_sendFault 14 = .ok (.ifCond .ne 5, 3) := by decide +kernel
theorem dX3_sendFault_17 : decode cX3_sendFault 17 = .ok (.iconst 2, 1) := by decide +kernel
theorem dX3_sendFault_18 : decode cX3_sendFault 18 = .ok (.ireturn, 1) := by decide +kernel
theorem dX3_sendFault_19 : decode cX3_sendFault 19 = .ok (.aload_n 0, 1) := by decide +kernel
theorem dX3_sendFault_20 : decode cX3_sendFault 20 = .ok (.getfield 10, 3) := by decide +kernel
theorem dX3_sendFault_23 : decode cX3_sendFault 23 = .ok (.getfield 139, 3) := by decide +kernel
theorem dX3_sendFault_26 : decode cX3_sendFault 26 = .ok (.bipush 12, 2) := by decide +kernel
theorem dX3_sendFault_28 : decode cX3_sendFault 28 = .ok (.if_icmp .ge 7, 3) := by decide +kernel
theorem dX3_sendFault_31 : decode cX3_sendFault 31 = .ok (.iconst 0, 1) := by decide +kernel
theorem dX3_sendFault_32 : decode cX3_sendFault 32 = .ok (.goto 4, 3) := by decide +kernel
theorem dX3_sendFault_35 : decode cX3_sendFault 35 = .ok (.iconst 3, 1) := by decide +kernel
theorem dX3_sendFault_36 : decode cX3_sendFault 36 = .ok (.ireturn, 1) := by decide +kernel
theorem dX3_answerFault_0 : decode cX3_answerFault 0 = .ok (.iload_n 1, 1) := by decide +kernel
theorem dX3_answerFault_1 : decode cX3_answerFault 1 = .ok (.invokestatic 148, 3) := by decide +kernel
theorem dX3_answerFault_4 : decode cX3_answerFault 4 = .ok (.ifCond .eq 5, 3) := by decide +kernel
theorem dX3_answerFault_7 : decode cX3_answerFault 7 = .ok (.iconst 1, 1) := by decide +kernel
theorem dX3_answerFault_8 : decode cX3_answerFault 8 = .ok (.ireturn, 1) := by decide +kernel
theorem dX3_answerFault_9 : decode cX3_answerFault 9 = .ok (.iload_n 2, 1) := by decide +kernel
theorem dX3_answerFault_10 : decode cX3_answerFault 10 = .ok (.invokestatic 239, 3) := by decide +kernel
theorem dX3_answerFault_13 : decode cX3_answerFault 13 = .ok (.ifCond .ne 5, 3) := by decide +kernel
theorem dX3_answerFault_16 : decode cX3_answerFault 16 = .ok (.iconst 2, 1) := by decide +kernel
theorem dX3_answerFault_17 : decode cX3_answerFault 17 = .ok (.ireturn, 1) := by decide +kernel
theorem dX3_answerFault_18 : decode cX3_answerFault 18 = .ok (.aload_n 0, 1) := by decide +kernel
theorem dX3_answerFault_19 : decode cX3_answerFault 19 = .ok (.getfield 10, 3) := by decide +kernel
theorem dX3_answerFault_22 : decode cX3_answerFault 22 = .ok (.getfield 242, 3) := by decide +kernel
theorem dX3_answerFault_25 : decode cX3_answerFault 25 = .ok (.iload_n 1, 1) := by decide +kernel
theorem dX3_answerFault_26 : decode cX3_answerFault 26 = .ok (.invokestatic 58, 3) := by decide +kernel
theorem dX3_answerFault_29 : decode cX3_answerFault 29 = .ok (.iconst (-1), 1) := by decide +kernel
theorem dX3_answerFault_30 : decode cX3_answerFault 30 = .ok (.if_icmp .eq 7, 3) := by decide +kernel
theorem dX3_answerFault_33 : decode cX3_answerFault 33 = .ok (.iconst 1, 1) := by decide +kernel
theorem dX3_answerFault_34 : decode cX3_answerFault 34 = .ok (.goto 4, 3) := by decide +kernel
theorem dX3_answerFault_37 : decode cX3_answerFault 37 = .ok (.iconst 0, 1) := by decide +kernel
theorem dX3_answerFault_38 : decode cX3_answerFault 38 = .ok (.istore_n 3, 1) := by decide +kernel
theorem dX3_answerFault_39 : decode cX3_answerFault 39 = .ok (.iload_n 3, 1) := by decide +kernel
theorem dX3_answerFault_40 : decode cX3_answerFault 40 = .ok (.ifCond .eq 19, 3) := by decide +kernel
theorem dX3_answerFault_43 : decode cX3_answerFault 43 = .ok (.aload_n 0, 1) := by decide +kernel
theorem dX3_answerFault_44 : decode cX3_answerFault 44 = .ok (.getfield 10, 3) := by decide +kernel
theorem dX3_answerFault_47 : decode cX3_answerFault 47 = .ok (.getfield 139, 3) := by decide +kernel
theorem dX3_answerFault_50 : decode cX3_answerFault 50 = .ok (.bipush 12, 2) := by decide +kernel
theorem dX3_answerFault_52 : decode cX3_answerFault 52 = .ok (.if_icmp .ge 7, 3) := by decide +kernel
theorem dX3_answerFault_55 : decode cX3_answerFault 55 = .ok (.iconst 0, 1) := by decide +kernel
theorem dX3_answerFault_56 : decode cX3_answerFault 56 = .ok (.goto 4, 3) := by decide +kernel
theorem dX3_answerFault_59 : decode cX3_answerFault 59 = .ok (.iconst 3, 1) := by decide +kernel
theorem dX3_answerFault_60 : decode cX3_answerFault 60 = .ok (.ireturn, 1) := by decide +kernel
theorem dX3_executeOrder_0 : decode cX3_executeOrder 0 = .ok (.aload_n 0, 1) := by decide +kernel
theorem dX3_executeOrder_1 : decode cX3_executeOrder 1 = .ok (.getfield 26, 3) := by decide +kernel
theorem dX3_executeOrder_4 : decode cX3_executeOrder 4 = .ok (.iload_n 1, 1) := by decide +kernel
theorem dX3_executeOrder_5 : decode cX3_executeOrder 5 = .ok (.iconst 1, 1) := by decide +kernel
theorem dX3_executeOrder_6 : decode cX3_executeOrder 6 = .ok (.iadd, 1) := by decide +kernel
theorem dX3_executeOrder_7 : decode cX3_executeOrder 7 = .ok (.invokevirtual 245, 3) := by decide +kernel
theorem dX3_executeOrder_10 : decode cX3_executeOrder 10 = .ok (.istore_n 3, 1) := by decide +kernel
theorem dX3_executeOrder_11 : decode cX3_executeOrder 11 = .ok (.aload_n 0, 1) := by decide +kernel
theorem dX3_executeOrder_12 : decode cX3_executeOrder 12 = .ok (.getfield 26, 3) := by decide +kernel
theorem dX3_executeOrder_15 : decode cX3_executeOrder 15 = .ok (.iload_n 1, 1) := by decide +kernel
theorem dX3_executeOrder_16 : decode cX3_executeOrder 16 = .ok (.invokevirtual 195, 3) := by decide +kernel
theorem dX3_executeOrder_19 : decode cX3_executeOrder 19 = .ok (.lookupswitch 118 #[(97, 92), (114, 41), (115, 77), (116, 107)], 41) := by decide +kernel
theorem dX3_executeOrder_60 : decode cX3_executeOrder 60 = .ok (.aload_n 0, 1) := by decide +kernel
theorem dX3_executeOrder_61 : decode cX3_executeOrder 61 = .ok (.iload_n 3, 1) := by decide +kernel
theorem dX3_executeOrder_62 : decode cX3_executeOrder 62 = .ok (.aload_n 0, 1) := by decide +kernel
theorem dX3_executeOrder_63 : decode cX3_executeOrder 63 = .ok (.getfield 26, 3) := by decide +kernel
theorem dX3_executeOrder_66 : decode cX3_executeOrder 66 = .ok (.iload_n 1, 1) := by decide +kernel
theorem dX3_executeOrder_67 : decode cX3_executeOrder 67 = .ok (.iconst 2, 1) := by decide +kernel
theorem dX3_executeOrder_68 : decode cX3_executeOrder 68 = .ok (.iadd, 1) := by decide +kernel
theorem dX3_executeOrder_69 : decode cX3_executeOrder 69 = .ok (.invokevirtual 245, 3) := by decide +kernel
theorem dX3_executeOrder_72 : decode cX3_executeOrder 72 = .ok (.aload_n 0, 1) := by decide +kernel
theorem dX3_executeOrder_73 : decode cX3_executeOrder 73 = .ok (.getfield 26, 3) := by decide +kernel
theorem dX3_executeOrder_76 : decode cX3_executeOrder 76 = .ok (.iload_n 1, 1) := by decide +kernel
theorem dX3_executeOrder_77 : decode cX3_executeOrder 77 = .ok (.iconst 3, 1) := by decide +kernel
theorem dX3_executeOrder_78 : decode cX3_executeOrder 78 = .ok (.iadd, 1) := by decide +kernel
theorem dX3_executeOrder_79 : decode cX3_executeOrder 79 = .ok (.invokevirtual 245, 3) := by decide +kernel
theorem dX3_executeOrder_82 : decode cX3_executeOrder 82 = .ok (.aload_n 0, 1) := by decide +kernel
theorem dX3_executeOrder_83 : decode cX3_executeOrder 83 = .ok (.getfield 26, 3) := by decide +kernel
theorem dX3_executeOrder_86 : decode cX3_executeOrder 86 = .ok (.iload_n 1, 1) := by decide +kernel
theorem dX3_executeOrder_87 : decode cX3_executeOrder 87 = .ok (.iconst 4, 1) := by decide +kernel
theorem dX3_executeOrder_88 : decode cX3_executeOrder 88 = .ok (.iadd, 1) := by decide +kernel
theorem dX3_executeOrder_89 : decode cX3_executeOrder 89 = .ok (.invokevirtual 245, 3) := by decide +kernel
theorem dX3_executeOrder_92 : decode cX3_executeOrder 92 = .ok (.invokevirtual 248, 3) := by decide +kernel
theorem dX3_executeOrder_95 : decode cX3_executeOrder 95 = .ok (.ireturn, 1) := by decide +kernel
theorem dX3_executeOrder_96 : decode cX3_executeOrder 96 = .ok (.aload_n 0, 1) := by decide +kernel
theorem dX3_executeOrder_97 : decode cX3_executeOrder 97 = .ok (.iload_n 3, 1) := by decide +kernel
theorem dX3_executeOrder_98 : decode cX3_executeOrder 98 = .ok (.aload_n 0, 1) := by decide +kernel
theorem dX3_executeOrder_99 : decode cX3_executeOrder 99 = .ok (.getfield 26, 3) := by decide +kernel
theorem dX3_executeOrder_102 : decode cX3_executeOrder 102 = .ok (.iload_n 1, 1) := by decide +kernel
theorem dX3_executeOrder_103 : decode cX3_executeOrder 103 = .ok (.iload_n 2, 1) := by decide +kernel
theorem dX3_executeOrder_104 : decode cX3_executeOrder 104 = .ok (.invokevirtual 252, 3) := by decide +kernel
theorem dX3_executeOrder_107 : decode cX3_executeOrder 107 = .ok (.invokevirtual 255, 3) := by decide +kernel
theorem dX3_executeOrder_110 : decode cX3_executeOrder 110 = .ok (.ireturn, 1) := by decide +kernel
theorem dX3_executeOrder_111 : decode cX3_executeOrder 111 = .ok (.aload_n 0, 1) := by decide +kernel
theorem dX3_executeOrder_112 : decode cX3_executeOrder 112 = .ok (.iload_n 3, 1) := by decide +kernel
theorem dX3_executeOrder_113 : decode cX3_executeOrder 113 = .ok (.aload_n 0, 1) := by decide +kernel
theorem dX3_executeOrder_114 : decode cX3_executeOrder 114 = .ok (.getfield 26, 3) := by decide +kernel
theorem dX3_executeOrder_117 : decode cX3_executeOrder 117 = .ok (.iload_n 1, 1) := by decide +kernel
theorem dX3_executeOrder_118 : decode cX3_executeOrder 118 = .ok (.iload_n 2, 1) := by decide +kernel
theorem dX3_executeOrder_119 : decode cX3_executeOrder 119 = .ok (.invokevirtual 252, 3) := by decide +kernel
theorem dX3_executeOrder_122 : decode cX3_executeOrder 122 = .ok (.invokevirtual 258, 3) := by decide +kernel
theorem dX3_executeOrder_125 : decode cX3_executeOrder 125 = .ok (.ireturn, 1) := by decide +kernel
theorem dX3_executeOrder_126 : decode cX3_executeOrder 126 = .ok (.aload_n 0, 1) := by decide +kernel
theorem dX3_executeOrder_127 : decode cX3_executeOrder 127 = .ok (.getfield 10, 3) := by decide +kernel
theorem dX3_executeOrder_130 : decode cX3_executeOrder 130 = .ok (.iload_n 3, 1) := by decide +kernel
theorem dX3_executeOrder_131 : decode cX3_executeOrder 131 = .ok (.invokevirtual 136, 3) := by decide +kernel
theorem dX3_executeOrder_134 : decode cX3_executeOrder 134 = .ok (.pop, 1) := by decide +kernel
theorem dX3_executeOrder_135 : decode cX3_executeOrder 135 = .ok (.iconst 1, 1) := by decide +kernel
theorem dX3_executeOrder_136 : decode cX3_executeOrder 136 = .ok (.ireturn, 1) := by decide +kernel
theorem dX3_executeOrder_137 : decode cX3_executeOrder 137 = .ok (.aload_n 0, 1) := by decide +kernel
theorem dX3_executeOrder_138 : decode cX3_executeOrder 138 = .ok (.getfield 10, 3) := by decide +kernel
theorem dX3_executeOrder_141 : decode cX3_executeOrder 141 = .ok (.iload_n 3, 1) := by decide +kernel
theorem dX3_executeOrder_142 : decode cX3_executeOrder 142 = .ok (.aload_n 0, 1) := by decide +kernel
theorem dX3_executeOrder_143 : decode cX3_executeOrder 143 = .ok (.getfield 26, 3) := by decide +kernel
theorem dX3_executeOrder_146 : decode cX3_executeOrder 146 = .ok (.iload_n 1, 1) := by decide +kernel
theorem dX3_executeOrder_147 : decode cX3_executeOrder 147 = .ok (.invokevirtual 195, 3) := by decide +kernel
theorem dX3_executeOrder_150 : decode cX3_executeOrder 150 = .ok (.bipush 111, 2) := by decide +kernel
theorem dX3_executeOrder_152 : decode cX3_executeOrder 152 = .ok (.if_icmp .ne 7, 3) := by decide +kernel
theorem dX3_executeOrder_155 : decode cX3_executeOrder 155 = .ok (.iconst 1, 1) := by decide +kernel
theorem dX3_executeOrder_156 : decode cX3_executeOrder 156 = .ok (.goto 4, 3) := by decide +kernel
theorem dX3_executeOrder_159 : decode cX3_executeOrder 159 = .ok (.iconst 0, 1) := by decide +kernel
theorem dX3_executeOrder_160 : decode cX3_executeOrder 160 = .ok (.invokevirtual 46, 3) := by decide +kernel
theorem dX3_executeOrder_163 : decode cX3_executeOrder 163 = .ok (.iconst 1, 1) := by decide +kernel
theorem dX3_executeOrder_164 : decode cX3_executeOrder 164 = .ok (.ireturn, 1) := by decide +kernel
theorem dX3_layIfFine_0 : decode cX3_layIfFine 0 = .ok (.aload_n 0, 1) := by decide +kernel
theorem dX3_layIfFine_1 : decode cX3_layIfFine 1 = .ok (.iload_n 1, 1) := by decide +kernel
theorem dX3_layIfFine_2 : decode cX3_layIfFine 2 = .ok (.iload_n 2, 1) := by decide +kernel
theorem dX3_layIfFine_3 : decode cX3_layIfFine 3 = .ok (.iload_n 3, 1) := by decide +kernel
theorem dX3_layIfFine_4 : decode cX3_layIfFine 4 = .ok (.iload 4, 2) := by decide +kernel
theorem dX3_layIfFine_6 : decode cX3_layIfFine 6 = .ok (.invokevirtual 72, 3) := by decide +kernel
theorem dX3_layIfFine_9 : decode cX3_layIfFine 9 = .ok (.ifCond .eq 5, 3) := by decide +kernel
theorem dX3_layIfFine_12 : decode cX3_layIfFine 12 = .ok (.iconst 0, 1) := by decide +kernel
theorem dX3_layIfFine_13 : decode cX3_layIfFine 13 = .ok (.ireturn, 1) := by decide +kernel
theorem dX3_layIfFine_14 : decode cX3_layIfFine 14 = .ok (.aload_n 0, 1) := by decide +kernel
theorem dX3_layIfFine_15 : decode cX3_layIfFine 15 = .ok (.getfield 10, 3) := by decide +kernel
theorem dX3_layIfFine_18 : decode cX3_layIfFine 18 = .ok (.iload_n 1, 1) := by decide +kernel
theorem dX3_layIfFine_19 : decode cX3_layIfFine 19 = .ok (.iload_n 2, 1) := by decide +kernel
theorem dX3_layIfFine_20 : decode cX3_layIfFine 20 = .ok (.iload_n 3, 1) := by decide +kernel
theorem dX3_layIfFine_21 : decode cX3_layIfFine 21 = .ok (.iload 4, 2) := by decide +kernel
theorem dX3_layIfFine_23 : decode cX3_layIfFine 23 = .ok (.invokevirtual 76, 3) := by decide +kernel
theorem dX3_layIfFine_26 : decode cX3_layIfFine 26 = .ok (.pop, 1) := by decide +kernel
theorem dX3_layIfFine_27 : decode cX3_layIfFine 27 = .ok (.iconst 1, 1) := by decide +kernel
theorem dX3_layIfFine_28 : decode cX3_layIfFine 28 = .ok (.ireturn, 1) := by decide +kernel
theorem dX3_sendIfFine_0 : decode cX3_sendIfFine 0 = .ok (.aload_n 0, 1) := by decide +kernel
theorem dX3_sendIfFine_1 : decode cX3_sendIfFine 1 = .ok (.iload_n 1, 1) := by decide +kernel
theorem dX3_sendIfFine_2 : decode cX3_sendIfFine 2 = .ok (.iload_n 2, 1) := by decide +kernel
theorem dX3_sendIfFine_3 : decode cX3_sendIfFine 3 = .ok (.invokevirtual 119, 3) := by decide +kernel
theorem dX3_sendIfFine_6 : decode cX3_sendIfFine 6 = .ok (.ifCond .eq 5, 3) := by decide +kernel
theorem dX3_sendIfFine_9 : decode cX3_sendIfFine 9 = .ok (.iconst 0, 1) := by decide +kernel
theorem dX3_sendIfFine_10 : decode cX3_sendIfFine 10 = .ok (.ireturn, 1) := by decide +kernel
theorem dX3_sendIfFine_11 : decode cX3_sendIfFine 11 = .ok (.aload_n 0, 1) := by decide +kernel
theorem dX3_sendIfFine_12 : decode cX3_sendIfFine 12 = .ok (.getfield 10, 3) := by decide +kernel
theorem dX3_sendIfFine_15 : decode cX3_sendIfFine 15 = .ok (.iload_n 1, 1) := by decide +kernel
theorem dX3_sendIfFine_16 : decode cX3_sendIfFine 16 = .ok (.iload_n 2, 1) := by decide +kernel
theorem dX3_sendIfFine_17 : decode cX3_sendIfFine 17 = .ok (.invokevirtual 122, 3) := by decide +kernel
theorem dX3_sendIfFine_20 : decode cX3_sendIfFine 20 = .ok (.pop, 1) := by decide +kernel
theorem dX3_sendIfFine_21 : decode cX3_sendIfFine 21 = .ok (.iconst 1, 1) := by decide +kernel
theorem dX3_sendIfFine_22 : decode cX3_sendIfFine 22 = .ok (.ireturn, 1) := by decide +kernel
theorem dX3_answerIfFine_0 : decode cX3_answerIfFine 0 = .ok (.aload_n 0, 1) := by decide +kernel
theorem dX3_answerIfFine_1 : decode cX3_answerIfFine 1 = .ok (.iload_n 1, 1) := by decide +kernel
theorem dX3_answerIfFine_2 : decode cX3_answerIfFine 2 = .ok (.iload_n 2, 1) := by decide +kernel
theorem dX3_answerIfFine_3 : decode cX3_answerIfFine 3 = .ok (.invokevirtual 125, 3) := by decide +kernel
theorem dX3_answerIfFine_6 : decode cX3_answerIfFine 6 = .ok (.ifCond .eq 5, 3) := by decide +kernel
theorem dX3_answerIfFine_9 : decode cX3_answerIfFine 9 = .ok (.iconst 0, 1) := by decide +kernel
theorem dX3_answerIfFine_10 : decode cX3_answerIfFine 10 = .ok (.ireturn, 1) := by decide +kernel
theorem dX3_answerIfFine_11 : decode cX3_answerIfFine 11 = .ok (.aload_n 0, 1) := by decide +kernel
theorem dX3_answerIfFine_12 : decode cX3_answerIfFine 12 = .ok (.getfield 10, 3) := by decide +kernel
theorem dX3_answerIfFine_15 : decode cX3_answerIfFine 15 = .ok (.iload_n 1, 1) := by decide +kernel
theorem dX3_answerIfFine_16 : decode cX3_answerIfFine 16 = .ok (.iload_n 2, 1) := by decide +kernel
theorem dX3_answerIfFine_17 : decode cX3_answerIfFine 17 = .ok (.invokevirtual 128, 3) := by decide +kernel
theorem dX3_answerIfFine_20 : decode cX3_answerIfFine 20 = .ok (.pop, 1) := by decide +kernel
theorem dX3_answerIfFine_21 : decode cX3_answerIfFine 21 = .ok (.iconst 1, 1) := by decide +kernel
theorem dX3_answerIfFine_22 : decode cX3_answerIfFine 22 = .ok (.ireturn, 1) := by decide +kernel
theorem dX3_mixed_0 : decode cX3_mixed 0 = .ok (.ldc2_w 261, 3) := by decide +kernel
theorem dX3_mixed_3 : decode cX3_mixed 3 = .ok (.lload_n 0, 1) := by decide +kernel
theorem dX3_mixed_4 : decode cX3_mixed 4 = .ok (.lmul, 1) := by decide +kernel
theorem dX3_mixed_5 : decode cX3_mixed 5 = .ok (.iload_n 2, 1) := by decide +kernel
theorem dX3_mixed_6 : decode cX3_mixed 6 = .ok (.i2l, 1) := by decide +kernel
theorem dX3_mixed_7 : decode cX3_mixed 7 = .ok (.ladd, 1) := by decide +kernel
theorem dX3_mixed_8 : decode cX3_mixed 8 = .ok (.lreturn, 1) := by decide +kernel
theorem dX3_mixedRow_0 : decode cX3_mixedRow 0 = .ok (.lload_n 0, 1) := by decide +kernel
theorem dX3_mixedRow_1 : decode cX3_mixedRow 1 = .ok (.lstore_n 3, 1) := by decide +kernel
theorem dX3_mixedRow_2 : decode cX3_mixedRow 2 = .ok (.iconst 0, 1) := by decide +kernel
theorem dX3_mixedRow_3 : decode cX3_mixedRow 3 = .ok (.istore 5, 2) := by decide +kernel
theorem dX3_mixedRow_5 : decode cX3_mixedRow 5 = .ok (.iload 5, 2) := by decide +kernel
theorem dX3_mixedRow_7 : decode cX3_mixedRow 7 = .ok (.aload_n 2, 1) := by decide +kernel
theorem dX3_mixedRow_8 : decode cX3_mixedRow 8 = .ok (.arraylength, 1) := by decide +kernel
theorem dX3_mixedRow_9 : decode cX3_mixedRow 9 = .ok (.if_icmp .ge 18, 3) := by decide +kernel
theorem dX3_mixedRow_12 : decode cX3_mixedRow 12 = .ok (.lload_n 3, 1) := by decide +kernel
theorem dX3_mixedRow_13 : decode cX3_mixedRow 13 = .ok (.aload_n 2, 1) := by decide +kernel
theorem dX3_mixedRow_14 : decode cX3_mixedRow 14 = .ok (.iload 5, 2) := by decide +kernel
theorem dX3_mixedRow_16 : decode cX3_mixedRow 16 = .ok (.iaload, 1) := by decide +kernel
theorem dX3_mixedRow_17 : decode cX3_mixedRow 17 = .ok (.invokestatic 212, 3) := by decide +kernel
theorem dX3_mixedRow_20 : decode cX3_mixedRow 20 = .ok (.lstore_n 3, 1) := by decide +kernel
theorem dX3_mixedRow_21 : decode cX3_mixedRow 21 = .ok (.iinc 5 1, 3) := by decide +kernel
theorem dX3_mixedRow_24 : decode cX3_mixedRow 24 = .ok (.goto (-19), 3) := by decide +kernel
theorem dX3_mixedRow_27 : decode cX3_mixedRow 27 = .ok (.lload_n 3, 1) := by decide +kernel
theorem dX3_mixedRow_28 : decode cX3_mixedRow 28 = .ok (.lreturn, 1) := by decide +kernel
theorem dX3_mixedInns_0 : decode cX3_mixedInns 0 = .ok (.lload_n 1, 1) := by decide +kernel
theorem dX3_mixedInns_1 : decode cX3_mixedInns 1 = .ok (.lstore_n 3, 1) := by decide +kernel
theorem dX3_mixedInns_2 : decode cX3_mixedInns 2 = .ok (.iconst 0, 1) := by decide +kernel
theorem dX3_mixedInns_3 : decode cX3_mixedInns 3 = .ok (.istore 5, 2) := by decide +kernel
theorem dX3_mixedInns_5 : decode cX3_mixedInns 5 = .ok (.iload 5, 2) := by decide +kernel
theorem dX3_mixedInns_7 : decode cX3_mixedInns 7 = .ok (.bipush 8, 2) := by decide +kernel
theorem dX3_mixedInns_9 : decode cX3_mixedInns 9 = .ok (.if_icmp .ge 76, 3) := by decide +kernel
theorem dX3_mixedInns_12 : decode cX3_mixedInns 12 = .ok (.lload_n 3, 1) := by decide +kernel
theorem dX3_mixedInns_13 : decode cX3_mixedInns 13 = .ok (.aload_n 0, 1) := by decide +kernel
theorem dX3_mixedInns_14 : decode cX3_mixedInns 14 = .ok (.getfield 10, 3) := by decide +kernel
theorem dX3_mixedInns_17 : decode cX3_mixedInns 17 = .ok (.iload 5, 2) := by decide +kernel
theorem dX3_mixedInns_19 : decode cX3_mixedInns 19 = .ok (.invokevirtual 42, 3) := by decide +kernel
theorem dX3_mixedInns_22 : decode cX3_mixedInns 22 = .ok (.ifCond .eq 7, 3) := by decide +kernel
theorem dX3_mixedInns_25 : decode cX3_mixedInns 25 = .ok (.iconst 1, 1) := by decide +kernel
theorem dX3_mixedInns_26 : decode cX3_mixedInns 26 = .ok (.goto 4, 3) := by decide +kernel
theorem dX3_mixedInns_29 : decode cX3_mixedInns 29 = .ok (.iconst 0, 1) := by decide +kernel
theorem dX3_mixedInns_30 : decode cX3_mixedInns 30 = .ok (.invokestatic 212, 3) := by decide +kernel
theorem dX3_mixedInns_33 : decode cX3_mixedInns 33 = .ok (.lstore_n 3, 1) := by decide +kernel
theorem dX3_mixedInns_34 : decode cX3_mixedInns 34 = .ok (.lload_n 3, 1) := by decide +kernel
theorem dX3_mixedInns_35 : decode cX3_mixedInns 35 = .ok (.aload_n 0, 1) := by decide +kernel
theorem dX3_mixedInns_36 : decode cX3_mixedInns 36 = .ok (.getfield 10, 3) := by decide +kernel
theorem dX3_mixedInns_39 : decode cX3_mixedInns 39 = .ok (.getfield 54, 3) := by decide +kernel
theorem dX3_mixedInns_42 : decode cX3_mixedInns 42 = .ok (.iload 5, 2) := by decide +kernel
theorem dX3_mixedInns_44 : decode cX3_mixedInns 44 = .ok (.invokestatic 58, 3) := by decide +kernel
theorem dX3_mixedInns_47 : decode cX3_mixedInns 47 = .ok (.invokestatic 212, 3) := by decide +kernel
theorem dX3_mixedInns_50 : decode cX3_mixedInns 50 = .ok (.lstore_n 3, 1) := by decide +kernel
theorem dX3_mixedInns_51 : decode cX3_mixedInns 51 = .ok (.lload_n 3, 1) := by decide +kernel
theorem dX3_mixedInns_52 : decode cX3_mixedInns 52 = .ok (.aload_n 0, 1) := by decide +kernel
theorem dX3_mixedInns_53 : decode cX3_mixedInns 53 = .ok (.getfield 10, 3) := by decide +kernel
theorem dX3_mixedInns_56 : decode cX3_mixedInns 56 = .ok (.iload 5, 2) := by decide +kernel
theorem dX3_mixedInns_58 : decode cX3_mixedInns 58 = .ok (.invokevirtual 116, 3) := by decide +kernel
theorem dX3_mixedInns_61 : decode cX3_mixedInns 61 = .ok (.invokestatic 212, 3) := by decide +kernel
theorem dX3_mixedInns_64 : decode cX3_mixedInns 64 = .ok (.lstore_n 3, 1) := by decide +kernel
theorem dX3_mixedInns_65 : decode cX3_mixedInns 65 = .ok (.lload_n 3, 1) := by decide +kernel
theorem dX3_mixedInns_66 : decode cX3_mixedInns 66 = .ok (.aload_n 0, 1) := by decide +kernel
theorem dX3_mixedInns_67 : decode cX3_mixedInns 67 = .ok (.getfield 10, 3) := by decide +kernel
theorem dX3_mixedInns_70 : decode cX3_mixedInns 70 = .ok (.iload 5, 2) := by decide +kernel
theorem dX3_mixedInns_72 : decode cX3_mixedInns 72 = .ok (.invokevirtual 160, 3) := by decide +kernel
theorem dX3_mixedInns_75 : decode cX3_mixedInns 75 = .ok (.invokestatic 212, 3) := by decide +kernel
theorem dX3_mixedInns_78 : decode cX3_mixedInns 78 = .ok (.lstore_n 3, 1) := by decide +kernel
theorem dX3_mixedInns_79 : decode cX3_mixedInns 79 = .ok (.iinc 5 1, 3) := by decide +kernel
theorem dX3_mixedInns_82 : decode cX3_mixedInns 82 = .ok (.goto (-77), 3) := by decide +kernel
theorem dX3_mixedInns_85 : decode cX3_mixedInns 85 = .ok (.lload_n 3, 1) := by decide +kernel
theorem dX3_mixedInns_86 : decode cX3_mixedInns 86 = .ok (.lreturn, 1) := by decide +kernel
theorem dX3_mixedRoads_0 : decode cX3_mixedRoads 0 = .ok (.lload_n 1, 1) := by decide +kernel
theorem dX3_mixedRoads_1 : decode cX3_mixedRoads 1 = .ok (.lstore_n 3, 1) := by decide +kernel
theorem dX3_mixedRoads_2 : decode cX3_mixedRoads 2 = .ok (.iconst 0, 1) := by decide +kernel
theorem dX3_mixedRoads_3 : decode cX3_mixedRoads 3 = .ok (.istore 5, 2) := by decide +kernel
theorem dX3_mixedRoads_5 : decode cX3_mixedRoads 5 = .ok (.iload 5, 2) := by decide +kernel
theorem dX3_mixedRoads_7 : decode cX3_mixedRoads 7 = .ok (.aload_n 0, 1) := by decide +kernel
theorem dX3_mixedRoads_8 : decode cX3_mixedRoads 8 = .ok (.getfield 10, 3) := by decide +kernel
theorem dX3_mixedRoads_11 : decode cX3_mixedRoads 11 = .ok (.getfield 79, 3) := by decide +kernel
theorem dX3_mixedRoads_14 : decode cX3_mixedRoads 14 = .ok (.if_icmp .ge 79, 3) := by decide +kernel
theorem dX3_mixedRoads_17 : decode cX3_mixedRoads 17 = .ok (.iconst 1, 1) := by decide +kernel
theorem dX3_mixedRoads_18 : decode cX3_mixedRoads 18 = .ok (.istore 6, 2) := by decide +kernel
theorem dX3_mixedRoads_20 : decode cX3_mixedRoads 20 = .ok (.iload 6, 2) := by decide +kernel
theorem dX3_mixedRoads_22 : decode cX3_mixedRoads 22 = .ok (.iconst 3, 1) := by decide +kernel
theorem dX3_mixedRoads_23 : decode cX3_mixedRoads 23 = .ok (.if_icmp .gt 25, 3) := by decide +kernel
theorem dX3_mixedRoads_26 : decode cX3_mixedRoads 26 = .ok (.lload_n 3, 1) := by decide +kernel
theorem dX3_mixedRoads_27 : decode cX3_mixedRoads 27 = .ok (.aload_n 0, 1) := by decide +kernel
theorem dX3_mixedRoads_28 : decode cX3_mixedRoads 28 = .ok (.getfield 10, 3) := by decide +kernel
theorem dX3_mixedRoads_31 : decode cX3_mixedRoads 31 = .ok (.iload 5, 2) := by decide +kernel
theorem dX3_mixedRoads_33 : decode cX3_mixedRoads 33 = .ok (.iload 6, 2) := by decide +kernel
theorem dX3_mixedRoads_35 : decode cX3_mixedRoads 35 = .ok (.invokevirtual 103, 3) := by decide +kernel
theorem dX3_mixedRoads_38 : decode cX3_mixedRoads 38 = .ok (.invokestatic 212, 3) := by decide +kernel
theorem dX3_mixedRoads_41 : decode cX3_mixedRoads 41 = .ok (.lstore_n 3, 1) := by decide +kernel
theorem dX3_mixedRoads_42 : decode cX3_mixedRoads 42 = .ok (.iinc 6 1, 3) := by decide +kernel
theorem dX3_mixedRoads_45 : decode cX3_mixedRoads 45 = .ok (.goto (-25), 3) := by decide +kernel
theorem dX3_mixedRoads_48 : decode cX3_mixedRoads 48 = .ok (.lload_n 3, 1) := by decide +kernel
theorem dX3_mixedRoads_49 : decode cX3_mixedRoads 49 = .ok (.aload_n 0, 1) := by decide +kernel
theorem dX3_mixedRoads_50 : decode cX3_mixedRoads 50 = .ok (.getfield 10, 3) := by decide +kernel
theorem dX3_mixedRoads_53 : decode cX3_mixedRoads 53 = .ok (.getfield 106, 3) := by decide +kernel
theorem dX3_mixedRoads_56 : decode cX3_mixedRoads 56 = .ok (.iload 5, 2) := by decide +kernel
theorem dX3_mixedRoads_58 : decode cX3_mixedRoads 58 = .ok (.invokestatic 58, 3) := by decide +kernel
theorem dX3_mixedRoads_61 : decode cX3_mixedRoads 61 = .ok (.invokestatic 212, 3) := by decide +kernel
theorem dX3_mixedRoads_64 : decode cX3_mixedRoads 64 = .ok (.lstore_n 3, 1) := by decide +kernel
theorem dX3_mixedRoads_65 : decode cX3_mixedRoads 65 = .ok (.lload_n 3, 1) := by decide +kernel
theorem dX3_mixedRoads_66 : decode cX3_mixedRoads 66 = .ok (.aload_n 0, 1) := by decide +kernel
theorem dX3_mixedRoads_67 : decode cX3_mixedRoads 67 = .ok (.getfield 10, 3) := by decide +kernel
theorem dX3_mixedRoads_70 : decode cX3_mixedRoads 70 = .ok (.iload 5, 2) := by decide +kernel
theorem dX3_mixedRoads_72 : decode cX3_mixedRoads 72 = .ok (.invokevirtual 109, 3) := by decide +kernel
theorem dX3_mixedRoads_75 : decode cX3_mixedRoads 75 = .ok (.ifCond .eq 7, 3) := by decide +kernel
theorem dX3_mixedRoads_78 : decode cX3_mixedRoads 78 = .ok (.iconst 1, 1) := by decide +kernel
theorem dX3_mixedRoads_79 : decode cX3_mixedRoads 79 = .ok (.goto 4, 3) := by decide +kernel
theorem dX3_mixedRoads_82 : decode cX3_mixedRoads 82 = .ok (.iconst 0, 1) := by decide +kernel
theorem dX3_mixedRoads_83 : decode cX3_mixedRoads 83 = .ok (.invokestatic 212, 3) := by decide +kernel
theorem dX3_mixedRoads_86 : decode cX3_mixedRoads 86 = .ok (.lstore_n 3, 1) := by decide +kernel
theorem dX3_mixedRoads_87 : decode cX3_mixedRoads 87 = .ok (.iinc 5 1, 3) := by decide +kernel
theorem dX3_mixedRoads_90 : decode cX3_mixedRoads 90 = .ok (.goto (-85), 3) := by decide +kernel
theorem dX3_mixedRoads_93 : decode cX3_mixedRoads 93 = .ok (.lload_n 3, 1) := by decide +kernel
theorem dX3_mixedRoads_94 : decode cX3_mixedRoads 94 = .ok (.lreturn, 1) := by decide +kernel
theorem dX3_mixedEnvelopes_0 : decode cX3_mixedEnvelopes 0 = .ok (.lload_n 1, 1) := by decide +kernel
theorem dX3_mixedEnvelopes_1 : decode cX3_mixedEnvelopes 1 = .ok (.lstore_n 3, 1) := by decide +kernel
theorem dX3_mixedEnvelopes_2 : decode cX3_mixedEnvelopes 2 = .ok (.iconst 0, 1) := by decide +kernel
theorem dX3_mixedEnvelopes_3 : decode cX3_mixedEnvelopes 3 = .ok (.istore 5, 2) := by decide +kernel
theorem dX3_mixedEnvelopes_5 : decode cX3_mixedEnvelopes 5 = .ok (.iload 5, 2) := by decide +kernel
theorem dX3_mixedEnvelopes_7 : decode cX3_mixedEnvelopes 7 = .ok (.aload_n 0, 1) := by decide +kernel
theorem dX3_mixedEnvelopes_8 : decode cX3_mixedEnvelopes 8 = .ok (.getfield 10, 3) := by decide +kernel
theorem dX3_mixedEnvelopes_11 : decode cX3_mixedEnvelopes 11 = .ok (.getfield 139, 3) := by decide +kernel
theorem dX3_mixedEnvelopes_14 : decode cX3_mixedEnvelopes 14 = .ok (.if_icmp .ge 61, 3) := by decide +kernel
theorem dX3_mixedEnvelopes_17 : decode cX3_mixedEnvelopes 17 = .ok (.iconst 0, 1) := by decide +kernel
theorem dX3_mixedEnvelopes_18 : decode cX3_mixedEnvelopes 18 = .ok (.istore 6, 2) := by decide +kernel
theorem dX3_mixedEnvelopes_20 : decode cX3_mixedEnvelopes 20 = .ok (.iload 6, 2) := by decide +kernel
theorem dX3_mixedEnvelopes_22 : decode cX3_mixedEnvelopes 22 = .ok (.iconst 4, 1) := by decide +kernel
theorem dX3_mixedEnvelopes_23 : decode cX3_mixedEnvelopes 23 = .ok (.if_icmp .ge 25, 3) := by decide +kernel
theorem dX3_mixedEnvelopes_26 : decode cX3_mixedEnvelopes 26 = .ok (.lload_n 3, 1) := by decide +kernel
theorem dX3_mixedEnvelopes_27 : decode cX3_mixedEnvelopes 27 = .ok (.aload_n 0, 1) := by decide +kernel
theorem dX3_mixedEnvelopes_28 : decode cX3_mixedEnvelopes 28 = .ok (.getfield 10, 3) := by decide +kernel
theorem dX3_mixedEnvelopes_31 : decode cX3_mixedEnvelopes 31 = .ok (.iload 5, 2) := by decide +kernel
theorem dX3_mixedEnvelopes_33 : decode cX3_mixedEnvelopes 33 = .ok (.iload 6, 2) := by decide +kernel
theorem dX3_mixedEnvelopes_35 : decode cX3_mixedEnvelopes 35 = .ok (.invokevirtual 145, 3) := by decide +kernel
theorem dX3_mixedEnvelopes_38 : decode cX3_mixedEnvelopes 38 = .ok (.invokestatic 212, 3) := by decide +kernel
theorem dX3_mixedEnvelopes_41 : decode cX3_mixedEnvelopes 41 = .ok (.lstore_n 3, 1) := by decide +kernel
theorem dX3_mixedEnvelopes_42 : decode cX3_mixedEnvelopes 42 = .ok (.iinc 6 1, 3) := by decide +kernel
theorem dX3_mixedEnvelopes_45 : decode cX3_mixedEnvelopes 45 = .ok (.goto (-25), 3) := by decide +kernel
theorem dX3_mixedEnvelopes_48 : decode cX3_mixedEnvelopes 48 = .ok (.lload_n 3, 1) := by decide +kernel
theorem dX3_mixedEnvelopes_49 : decode cX3_mixedEnvelopes 49 = .ok (.aload_n 0, 1) := by decide +kernel
theorem dX3_mixedEnvelopes_50 : decode cX3_mixedEnvelopes 50 = .ok (.getfield 10, 3) := by decide +kernel
theorem dX3_mixedEnvelopes_53 : decode cX3_mixedEnvelopes 53 = .ok (.iload 5, 2) := by decide +kernel
theorem dX3_mixedEnvelopes_55 : decode cX3_mixedEnvelopes 55 = .ok (.aload_n 0, 1) := by decide +kernel
theorem dX3_mixedEnvelopes_56 : decode cX3_mixedEnvelopes 56 = .ok (.getfield 10, 3) := by decide +kernel
theorem dX3_mixedEnvelopes_59 : decode cX3_mixedEnvelopes 59 = .ok (.getfield 163, 3) := by decide +kernel
theorem dX3_mixedEnvelopes_62 : decode cX3_mixedEnvelopes 62 = .ok (.invokevirtual 166, 3) := by decide +kernel
theorem dX3_mixedEnvelopes_65 : decode cX3_mixedEnvelopes 65 = .ok (.invokestatic 212, 3) := by decide +kernel
theorem dX3_mixedEnvelopes_68 : decode cX3_mixedEnvelopes 68 = .ok (.lstore_n 3, 1) := by decide +kernel
theorem dX3_mixedEnvelopes_69 : decode cX3_mixedEnvelopes 69 = .ok (.iinc 5 1, 3) := by decide +kernel
theorem dX3_mixedEnvelopes_72 : decode cX3_mixedEnvelopes 72 = .ok (.goto (-67), 3) := by decide +kernel
theorem dX3_mixedEnvelopes_75 : decode cX3_mixedEnvelopes 75 = .ok (.lload_n 3, 1) := by decide +kernel
theorem dX3_mixedEnvelopes_76 : decode cX3_mixedEnvelopes 76 = .ok (.lreturn, 1) := by decide +kernel
theorem dX3_isBetween_0 : decode cX3_isBetween 0 = .ok (.iload_n 0, 1) := by decide +kernel
theorem dX3_isBetween_1 : decode cX3_isBetween 1 = .ok (.iload_n 1, 1) := by decide +kernel
theorem dX3_isBetween_2 : decode cX3_isBetween 2 = .ok (.if_icmp .lt 12, 3) := by decide +kernel
theorem dX3_isBetween_5 : decode cX3_isBetween 5 = .ok (.iload_n 0, 1) := by decide +kernel
theorem dX3_isBetween_6 : decode cX3_isBetween 6 = .ok (.iload_n 2, 1) := by decide +kernel
theorem dX3_isBetween_7 : decode cX3_isBetween 7 = .ok (.if_icmp .gt 7, 3) := by decide +kernel
theorem dX3_isBetween_10 : decode cX3_isBetween 10 = .ok (.iconst 1, 1) := by decide +kernel
theorem dX3_isBetween_11 : decode cX3_isBetween 11 = .ok (.goto 4, 3) := by decide +kernel
theorem dX3_isBetween_14 : decode cX3_isBetween 14 = .ok (.iconst 0, 1) := by decide +kernel
theorem dX3_isBetween_15 : decode cX3_isBetween 15 = .ok (.ireturn, 1) := by decide +kernel
theorem dX3_isBody_0 : decode cX3_isBody 0 = .ok (.iload_n 0, 1) := by decide +kernel
theorem dX3_isBody_1 : decode cX3_isBody 1 = .ok (.iconst 0, 1) := by decide +kernel
theorem dX3_isBody_2 : decode cX3_isBody 2 = .ok (.sipush 9999, 3) := by decide +kernel
theorem dX3_isBody_5 : decode cX3_isBody 5 = .ok (.invokestatic 96, 3) := by decide +kernel
theorem dX3_isBody_8 : decode cX3_isBody 8 = .ok (.ireturn, 1) := by decide +kernel
theorem dX3_covered_0 : decode cX3_covered 0 = .ok (.bipush 7, 2) := by decide +kernel
theorem dX3_covered_2 : decode cX3_covered 2 = .ok (.iload_n 0, 1) := by decide +kernel
theorem dX3_covered_3 : decode cX3_covered 3 = .ok (.imul, 1) := by decide +kernel
theorem dX3_covered_4 : decode cX3_covered 4 = .ok (.iload_n 1, 1) := by decide +kernel
theorem dX3_covered_5 : decode cX3_covered 5 = .ok (.iadd, 1) := by decide +kernel
theorem dX3_covered_6 : decode cX3_covered 6 = .ok (.sipush 10000, 3) := by decide +kernel
theorem dX3_covered_9 : decode cX3_covered 9 = .ok (.invokestatic 263, 3) := by decide +kernel
theorem dX3_covered_12 : decode cX3_covered 12 = .ok (.ireturn, 1) := by decide +kernel
theorem dX3_uncovered_0 : decode cX3_uncovered 0 = .ok (.sipush 7143, 3) := by decide +kernel
theorem dX3_uncovered_3 : decode cX3_uncovered 3 = .ok (.iload_n 0, 1) := by decide +kernel
theorem dX3_uncovered_4 : decode cX3_uncovered 4 = .ok (.iload_n 1, 1) := by decide +kernel
theorem dX3_uncovered_5 : decode cX3_uncovered 5 = .ok (.isub, 1) := by decide +kernel
theorem dX3_uncovered_6 : decode cX3_uncovered 6 = .ok (.imul, 1) := by decide +kernel
theorem dX3_uncovered_7 : decode cX3_uncovered 7 = .ok (.sipush 10000, 3) := by decide +kernel
theorem dX3_uncovered_10 : decode cX3_uncovered 10 = .ok (.invokestatic 263, 3) := by decide +kernel
theorem dX3_uncovered_13 : decode cX3_uncovered 13 = .ok (.ireturn, 1) := by decide +kernel
theorem dX3_read_0 : decode cX3_read 0 = .ok (.iload_n 1, 1) := by decide +kernel
theorem dX3_read_1 : decode cX3_read 1 = .ok (.ifCond .lt 15, 3) := by decide +kernel
theorem dX3_read_4 : decode cX3_read 4 = .ok (.iload_n 1, 1) := by decide +kernel
theorem dX3_read_5 : decode cX3_read 5 = .ok (.aload_n 0, 1) := by decide +kernel
theorem dX3_read_6 : decode cX3_read 6 = .ok (.arraylength, 1) := by decide +kernel
theorem dX3_read_7 : decode cX3_read 7 = .ok (.if_icmp .ge 9, 3) := by decide +kernel
theorem dX3_read_10 : decode cX3_read 10 = .ok (.aload_n 0, 1) := by decide +kernel
theorem dX3_read_11 : decode cX3_read 11 = .ok (.iload_n 1, 1) := by decide +kernel
theorem dX3_read_12 : decode cX3_read 12 = .ok (.iaload, 1) := by decide +kernel
theorem dX3_read_13 : decode cX3_read 13 = .ok (.goto 4, 3) := by decide +kernel
theorem dX3_read_16 : decode cX3_read 16 = .ok (.iconst 0, 1) := by decide +kernel
theorem dX3_read_17 : decode cX3_read 17 = .ok (.ireturn, 1) := by decide +kernel
theorem dX3_write_0 : decode cX3_write 0 = .ok (.iload_n 1, 1) := by decide +kernel
theorem dX3_write_1 : decode cX3_write 1 = .ok (.ifCond .lt 13, 3) := by decide +kernel
theorem dX3_write_4 : decode cX3_write 4 = .ok (.iload_n 1, 1) := by decide +kernel
theorem dX3_write_5 : decode cX3_write 5 = .ok (.aload_n 0, 1) := by decide +kernel
theorem dX3_write_6 : decode cX3_write 6 = .ok (.arraylength, 1) := by decide +kernel
theorem dX3_write_7 : decode cX3_write 7 = .ok (.if_icmp .ge 7, 3) := by decide +kernel
theorem dX3_write_10 : decode cX3_write 10 = .ok (.aload_n 0, 1) := by decide +kernel
theorem dX3_write_11 : decode cX3_write 11 = .ok (.iload_n 1, 1) := by decide +kernel
theorem dX3_write_12 : decode cX3_write 12 = .ok (.iload_n 2, 1) := by decide +kernel
theorem dX3_write_13 : decode cX3_write 13 = .ok (.iastore, 1) := by decide +kernel
theorem dX3_write_14 : decode cX3_write 14 = .ok (.return_, 1) := by decide +kernel
theorem dX3_copyRow_0 : decode cX3_copyRow 0 = .ok (.aload_n 0, 1) := by decide +kernel
theorem dX3_copyRow_1 : decode cX3_copyRow 1 = .ok (.iconst 0, 1) := by decide +kernel
theorem dX3_copyRow_2 : decode cX3_copyRow 2 = .ok (.aload_n 1, 1) := by decide +kernel
theorem dX3_copyRow_3 : decode cX3_copyRow 3 = .ok (.iconst 0, 1) := by decide +kernel
theorem dX3_copyRow_4 : decode cX3_copyRow 4 = .ok (.aload_n 0, 1) := by decide +kernel
theorem dX3_copyRow_5 : decode cX3_copyRow 5 = .ok (.arraylength, 1) := by decide +kernel
theorem dX3_copyRow_6 : decode cX3_copyRow 6 = .ok (.aload_n 1, 1) := by decide +kernel
theorem dX3_copyRow_7 : decode cX3_copyRow 7 = .ok (.arraylength, 1) := by decide +kernel
theorem dX3_copyRow_8 : decode cX3_copyRow 8 = .ok (.invokestatic 268, 3) := by decide +kernel
theorem dX3_copyRow_11 : decode cX3_copyRow 11 = .ok (.invokestatic 271, 3) := by decide +kernel
theorem dX3_copyRow_14 : decode cX3_copyRow 14 = .ok (.return_, 1) := by decide +kernel
end
section
theorem dX4_init_0 : decode cX4_init 0 = .ok (.aload_n 0, 1) := by decide +kernel
theorem dX4_init_1 : decode cX4_init 1 = .ok (.invokespecial 1, 3) := by decide +kernel
theorem dX4_init_4 : decode cX4_init 4 = .ok (.aload_n 0, 1) := by decide +kernel
theorem dX4_init_5 : decode cX4_init 5 = .ok (.sipush 854, 3) := by decide +kernel
theorem dX4_init_8 : decode cX4_init 8 = .ok (.newarray .int, 2) := by decide +kernel
theorem dX4_init_10 : decode cX4_init 10 = .ok (.putfield 7, 3) := by decide +kernel
theorem dX4_init_13 : decode cX4_init 13 = .ok (.aload_n 0, 1) := by decide +kernel
theorem dX4_init_14 : decode cX4_init 14 = .ok (.bipush 60, 2) := by decide +kernel
theorem dX4_init_16 : decode cX4_init 16 = .ok (.newarray .int, 2) := by decide +kernel
theorem dX4_init_18 : decode cX4_init 18 = .ok (.putfield 13, 3) := by decide +kernel
theorem dX4_init_21 : decode cX4_init 21 = .ok (.aload_n 0, 1) := by decide +kernel
theorem dX4_init_22 : decode cX4_init 22 = .ok (.getfield 7, 3) := by decide +kernel
theorem dX4_init_25 : decode cX4_init 25 = .ok (.iconst 2, 1) := by decide +kernel
theorem dX4_init_26 : decode cX4_init 26 = .ok (.iconst (-1), 1) := by decide +kernel
theorem dX4_init_27 : decode cX4_init 27 = .ok (.iastore, 1) := by decide +kernel
theorem dX4_init_28 : decode cX4_init 28 = .ok (.iconst 0, 1) := by decide +kernel
theorem dX4_init_29 : decode cX4_init 29 = .ok (.istore_n 1, 1) := by decide +kernel
theorem dX4_init_30 : decode cX4_init 30 = .ok (.iload_n 1, 1) := by decide +kernel
theorem dX4_init_31 : decode cX4_init 31 = .ok (.bipush 8, 2) := by decide +kernel
theorem dX4_init_33 : decode cX4_init 33 = .ok (.if_icmp .ge 35, 3) := by decide +kernel
theorem dX4_init_36 : decode cX4_init 36 = .ok (.aload_n 0, 1) := by decide +kernel
theorem dX4_init_37 : decode cX4_init 37 = .ok (.getfield 7, 3) := by decide +kernel
theorem dX4_init_40 : decode cX4_init 40 = .ok (.bipush 8, 2) := by decide +kernel
theorem dX4_init_42 : decode cX4_init 42 = .ok (.iload_n 1, 1) := by decide +kernel
theorem dX4_init_43 : decode cX4_init 43 = .ok (.iadd, 1) := by decide +kernel
theorem dX4_init_44 : decode cX4_init 44 = .ok (.iconst 1, 1) := by decide +kernel
theorem dX4_init_45 : decode cX4_init 45 = .ok (.iastore, 1) := by decide +kernel
theorem dX4_init_46 : decode cX4_init 46 = .ok (.aload_n 0, 1) := by decide +kernel
theorem dX4_init_47 : decode cX4_init 47 = .ok (.getfield 7, 3) := by decide +kernel
theorem dX4_init_50 : decode cX4_init 50 = .ok (.bipush 16, 2) := by decide +kernel
theorem dX4_init_52 : decode cX4_init 52 = .ok (.iload_n 1, 1) := by decide +kernel
theorem dX4_init_53 : decode cX4_init 53 = .ok (.iadd, 1) := by decide +kernel
theorem dX4_init_54 : decode cX4_init 54 = .ok (.sipush 1111, 3) := by decide +kernel
theorem dX4_init_57 : decode cX4_init 57 = .ok (.iload_n 1, 1) := by decide +kernel
theorem dX4_init_58 : decode cX4_init 58 = .ok (.iconst 1, 1) := by decide +kernel
theorem dX4_init_59 : decode cX4_init 59 = .ok (.iadd, 1) := by decide +kernel
theorem dX4_init_60 : decode cX4_init 60 = .ok (.imul, 1) := by decide +kernel
theorem dX4_init_61 : decode cX4_init 61 = .ok (.iastore, 1) := by decide +kernel
theorem dX4_init_62 : decode cX4_init 62 = .ok (.iinc 1 1, 3) := by decide +kernel
theorem dX4_init_65 : decode cX4_init 65 = .ok (.goto (-35), 3) := by decide +kernel
theorem dX4_init_68 : decode cX4_init 68 = .ok (.iconst 0, 1) := by decide +kernel
theorem dX4_init_69 : decode cX4_init 69 = .ok (.istore_n 1, 1) := by decide +kernel
theorem dX4_init_70 : decode cX4_init 70 = .ok (.iload_n 1, 1) := by decide +kernel
theorem dX4_init_71 : decode cX4_init 71 = .ok (.iconst 4, 1) := by decide +kernel
theorem dX4_init_72 : decode cX4_init 72 = .ok (.if_icmp .ge 29, 3) := by decide +kernel
theorem dX4_init_75 : decode cX4_init 75 = .ok (.aload_n 0, 1) := by decide +kernel
theorem dX4_init_76 : decode cX4_init 76 = .ok (.getfield 7, 3) := by decide +kernel
theorem dX4_init_79 : decode cX4_init 79 = .ok (.bipush 114, 2) := by decide +kernel
theorem dX4_init_81 : decode cX4_init 81 = .ok (.iload_n 1, 1) := by decide +kernel
theorem dX4_init_82 : decode cX4_init 82 = .ok (.iadd, 1) := by decide +kernel
theorem dX4_init_83 : decode cX4_init 83 = .ok (.iconst (-1), 1) := by decide +kernel
theorem dX4_init_84 : decode cX4_init 84 = .ok (.iastore, 1) := by decide +kernel
theorem dX4_init_85 : decode cX4_init 85 = .ok (.aload_n 0, 1) := by decide +kernel
theorem dX4_init_86 : decode cX4_init 86 = .ok (.getfield 7, 3) := by decide +kernel
theorem dX4_init_89 : decode cX4_init 89 = .ok (.bipush 118, 2) := by decide +kernel
theorem dX4_init_91 : decode cX4_init 91 = .ok (.iload_n 1, 1) := by decide +kernel
theorem dX4_init_92 : decode cX4_init 92 = .ok (.iadd, 1) := by decide +kernel
theorem dX4_init_93 : decode cX4_init 93 = .ok (.iconst (-1), 1) := by decide +kernel
theorem dX4_init_94 : decode cX4_init 94 = .ok (.iastore, 1) := by decide +kernel
theorem dX4_init_95 : decode cX4_init 95 = .ok (.iinc 1 1, 3) := by decide +kernel
theorem dX4_init_98 : decode cX4_init 98 = .ok (.goto (-28), 3) := by decide +kernel
theorem dX4_init_101 : decode cX4_init 101 = .ok (.return_, 1) := by decide +kernel
theorem dX4_thrown_0 : decode cX4_thrown 0 = .ok (.aload_n 0, 1) := by decide +kernel
theorem dX4_thrown_1 : decode cX4_thrown 1 = .ok (.getfield 16, 3) := by decide +kernel
theorem dX4_thrown_4 : decode cX4_thrown 4 = .ok (.ireturn, 1) := by decide +kernel
theorem dX4_in_0 : decode cX4_in 0 = .ok (.iload_n 0, 1) := by decide +kernel
theorem dX4_in_1 : decode cX4_in 1 = .ok (.iload_n 1, 1) := by decide +kernel
theorem dX4_in_2 : decode cX4_in 2 = .ok (.if_icmp .lt 12, 3) := by decide +kernel
theorem dX4_in_5 : decode cX4_in 5 = .ok (.iload_n 0, 1) := by decide +kernel
theorem dX4_in_6 : decode cX4_in 6 = .ok (.iload_n 2, 1) := by decide +kernel
theorem dX4_in_7 : decode cX4_in 7 = .ok (.if_icmp .gt 7, 3) := by decide +kernel
theorem dX4_in_10 : decode cX4_in 10 = .ok (.iconst 1, 1) := by decide +kernel
theorem dX4_in_11 : decode cX4_in 11 = .ok (.goto 4, 3) := by decide +kernel
theorem dX4_in_14 : decode cX4_in 14 = .ok (.iconst 0, 1) := by decide +kernel
theorem dX4_in_15 : decode cX4_in 15 = .ok (.ireturn, 1) := by decide +kernel
theorem dX4_holds_0 : decode cX4_holds 0 = .ok (.aload_n 0, 1) := by decide +kernel
theorem dX4_holds_1 : decode cX4_holds 1 = .ok (.iload_n 1, 1) := by decide +kernel
theorem dX4_holds_2 : decode cX4_holds 2 = .ok (.putfield 16, 3) := by decide +kernel
theorem dX4_holds_5 : decode cX4_holds 5 = .ok (.iload_n 1, 1) := by decide +kernel
theorem dX4_holds_6 : decode cX4_holds 6 = .ok (.ifCond .ne 7, 3) := by decide +kernel
theorem dX4_holds_9 : decode cX4_holds 9 = .ok (.iconst 1, 1) := by decide +kernel
theorem dX4_holds_10 : decode cX4_holds 10 = .ok (.goto 4, 3) := by decide +kernel
theorem dX4_holds_13 : decode cX4_holds 13 = .ok (.iconst 0, 1) := by decide +kernel
theorem dX4_holds_14 : decode cX4_holds 14 = .ok (.ireturn, 1) := by decide +kernel
theorem dX4_told_0 : decode cX4_told 0 = .ok (.aload_n 0, 1) := by decide +kernel
theorem dX4_told_1 : decode cX4_told 1 = .ok (.iconst 0, 1) := by decide +kernel
theorem dX4_told_2 : decode cX4_told 2 = .ok (.putfield 16, 3) := by decide +kernel
theorem dX4_told_5 : decode cX4_told 5 = .ok (.iload_n 1, 1) := by decide +kernel
theorem dX4_told_6 : decode cX4_told 6 = .ok (.ireturn, 1) := by decide +kernel
theorem dX4_isInn_0 : decode cX4_isInn 0 = .ok (.iload_n 0, 1) := by decide +kernel
theorem dX4_isInn_1 : decode cX4_isInn 1 = .ok (.iconst 0, 1) := by decide +kernel
theorem dX4_isInn_2 : decode cX4_isInn 2 = .ok (.bipush 7, 2) := by decide +kernel
theorem dX4_isInn_4 : decode cX4_isInn 4 = .ok (.invokestatic 20, 3) := by decide +kernel
theorem dX4_isInn_7 : decode cX4_isInn 7 = .ok (.ireturn, 1) := by decide +kernel
theorem dX4_isHall_0 : decode cX4_isHall 0 = .ok (.iload_n 0, 1) := by decide +kernel
theorem dX4_isHall_1 : decode cX4_isHall 1 = .ok (.iconst 0, 1) := by decide +kernel
theorem dX4_isHall_2 : decode cX4_isHall 2 = .ok (.iconst 3, 1) := by decide +kernel
theorem dX4_isHall_3 : decode cX4_isHall 3 = .ok (.invokestatic 20, 3) := by decide +kernel
theorem dX4_isHall_6 : decode cX4_isHall 6 = .ok (.ireturn, 1) := by decide +kernel
theorem dX4_isRoad_0 : decode cX4_isRoad 0 = .ok (.iload_n 1, 1) := by decide +kernel
theorem dX4_isRoad_1 : decode cX4_isRoad 1 = .ok (.iconst 0, 1) := by decide +kernel
theorem dX4_isRoad_2 : decode cX4_isRoad 2 = .ok (.aload_n 0, 1) := by decide +kernel
theorem dX4_isRoad_3 : decode cX4_isRoad 3 = .ok (.getfield 7, 3) := by decide +kernel
theorem dX4_isRoad_6 : decode cX4_isRoad 6 = .ok (.iconst 0, 1) := by decide +kernel
theorem dX4_isRoad_7 : decode cX4_isRoad 7 = .ok (.iaload, 1) := by decide +kernel
theorem dX4_isRoad_8 : decode cX4_isRoad 8 = .ok (.iconst 1, 1) := by decide +kernel
theorem dX4_isRoad_9 : decode cX4_isRoad 9 = .ok (.isub, 1) := by decide +kernel
theorem dX4_isRoad_10 : decode cX4_isRoad 10 = .ok (.invokestatic 20, 3) := by decide +kernel
theorem dX4_isRoad_13 : decode cX4_isRoad 13 = .ok (.ireturn, 1) := by decide +kernel
theorem dX4_isEnvelope_0 : decode cX4_isEnvelope 0 = .ok (.iload_n 1, 1) := by decide +kernel
theorem dX4_isEnvelope_1 : decode cX4_isEnvelope 1 = .ok (.iconst 0, 1) := by decide +kernel
theorem dX4_isEnvelope_2 : decode cX4_isEnvelope 2 = .ok (.aload_n 0, 1) := by decide +kernel
theorem dX4_isEnvelope_3 : decode cX4_isEnvelope 3 = .ok (.getfield 7, 3) := by decide +kernel
theorem dX4_isEnvelope_6 : decode cX4_isEnvelope 6 = .ok (.iconst 1, 1) := by decide +kernel
theorem dX4_isEnvelope_7 : decode cX4_isEnvelope 7 = .ok (.iaload, 1) := by decide +kernel
theorem dX4_isEnvelope_8 : decode cX4_isEnvelope 8 = .ok (.iconst 1, 1) := by decide +kernel
theorem dX4_isEnvelope_9 : decode cX4_isEnvelope 9 = .ok (.isub, 1) := by decide +kernel
theorem dX4_isEnvelope_10 : decode cX4_isEnvelope 10 = .ok (.invokestatic 20, 3) := by decide +kernel
theorem dX4_isEnvelope_13 : decode cX4_isEnvelope 13 = .ok (.ireturn, 1) := by decide +kernel
theorem dX4_isBody_0 : decode cX4_isBody 0 = .ok (.iload_n 0, 1) := by decide +kernel
theorem dX4_isBody_1 : decode cX4_isBody 1 = .ok (.iconst 0, 1) := by decide +kernel
theorem dX4_isBody_2 : decode cX4_isBody 2 = .ok (.sipush 9999, 3) := by decide +kernel
theorem dX4_isBody_5 : decode cX4_isBody 5 = .ok (.invokestatic 20, 3) := by decide +kernel
theorem dX4_isBody_8 : decode cX4_isBody 8 = .ok (.ireturn, 1) := by decide +kernel
theorem dX4_covered_0 : decode cX4_covered 0 = .ok (.bipush 7, 2) := by decide +kernel
theorem dX4_covered_2 : decode cX4_covered 2 = .ok (.iload_n 0, 1) := by decide +kernel
theorem dX4_covered_3 : decode cX4_covered 3 = .ok (.imul, 1) := by decide +kernel
theorem dX4_covered_4 : decode cX4_covered 4 = .ok (.iload_n 1, 1) := by decide +kernel
theorem dX4_covered_5 : decode cX4_covered 5 = .ok (.iadd, 1) := by decide +kernel
theorem dX4_covered_6 : decode cX4_covered 6 = .ok (.sipush 10000, 3) := by decide +kernel
theorem dX4_covered_9 : decode cX4_covered 9 = .ok (.irem, 1) := by decide +kernel
theorem dX4_covered_10 : decode cX4_covered 10 = .ok (.ireturn, 1) := by decide +kernel
theorem dX4_uncovered_0 : decode cX4_uncovered 0 = .ok (.sipush 7143, 3) := by decide +kernel
theorem dX4_uncovered_3 : decode cX4_uncovered 3 = .ok (.iload_n 0, 1) := by decide +kernel
theorem dX4_uncovered_4 : decode cX4_uncovered 4 = .ok (.iload_n 1, 1) := by decide +kernel
theorem dX4_uncovered_5 : decode cX4_uncovered 5 = .ok (.isub, 1) := by decide +kernel
theorem dX4_uncovered_6 : decode cX4_uncovered 6 = .ok (.sipush 10000, 3) := by decide +kernel
theorem dX4_uncovered_9 : decode cX4_uncovered 9 = .ok (.iadd, 1) := by decide +kernel
theorem dX4_uncovered_10 : decode cX4_uncovered 10 = .ok (.imul, 1) := by decide +kernel
theorem dX4_uncovered_11 : decode cX4_uncovered 11 = .ok (.sipush 10000, 3) := by decide +kernel
theorem dX4_uncovered_14 : decode cX4_uncovered 14 = .ok (.irem, 1) := by decide +kernel
theorem dX4_uncovered_15 : decode cX4_uncovered 15 = .ok (.ireturn, 1) := by decide +kernel
theorem dX4_innOf_0 : decode cX4_innOf 0 = .ok (.aload_n 0, 1) := by decide +kernel
theorem dX4_innOf_1 : decode cX4_innOf 1 = .ok (.getfield 7, 3) := by decide +kernel
theorem dX4_innOf_4 : decode cX4_innOf 4 = .ok (.bipush 24, 2) := by decide +kernel
theorem dX4_innOf_6 : decode cX4_innOf 6 = .ok (.bipush 7, 2) := by decide +kernel
theorem dX4_innOf_8 : decode cX4_innOf 8 = .ok (.iload_n 1, 1) := by decide +kernel
theorem dX4_innOf_9 : decode cX4_innOf 9 = .ok (.imul, 1) := by decide +kernel
theorem dX4_innOf_10 : decode cX4_innOf 10 = .ok (.iadd, 1) := by decide +kernel
theorem dX4_innOf_11 : decode cX4_innOf 11 = .ok (.iload_n 2, 1) := by decide +kernel
theorem dX4_innOf_12 : decode cX4_innOf 12 = .ok (.iadd, 1) := by decide +kernel
theorem dX4_innOf_13 : decode cX4_innOf 13 = .ok (.iconst 1, 1) := by decide +kernel
theorem dX4_innOf_14 : decode cX4_innOf 14 = .ok (.isub, 1) := by decide +kernel
theorem dX4_innOf_15 : decode cX4_innOf 15 = .ok (.iaload, 1) := by decide +kernel
theorem dX4_innOf_16 : decode cX4_innOf 16 = .ok (.ireturn, 1) := by decide +kernel
theorem dX4_keyOf_0 : decode cX4_keyOf 0 = .ok (.aload_n 0, 1) := by decide +kernel
theorem dX4_keyOf_1 : decode cX4_keyOf 1 = .ok (.getfield 7, 3) := by decide +kernel
theorem dX4_keyOf_4 : decode cX4_keyOf 4 = .ok (.bipush 24, 2) := by decide +kernel
theorem dX4_keyOf_6 : decode cX4_keyOf 6 = .ok (.bipush 7, 2) := by decide +kernel
theorem dX4_keyOf_8 : decode cX4_keyOf 8 = .ok (.iload_n 1, 1) := by decide +kernel
theorem dX4_keyOf_9 : decode cX4_keyOf 9 = .ok (.imul, 1) := by decide +kernel
theorem dX4_keyOf_10 : decode cX4_keyOf 10 = .ok (.iadd, 1) := by decide +kernel
theorem dX4_keyOf_11 : decode cX4_keyOf 11 = .ok (.iconst 2, 1) := by decide +kernel
theorem dX4_keyOf_12 : decode cX4_keyOf 12 = .ok (.iadd, 1) := by decide +kernel
theorem dX4_keyOf_13 : decode cX4_keyOf 13 = .ok (.iload_n 2, 1) := by decide +kernel
theorem dX4_keyOf_14 : decode cX4_keyOf 14 = .ok (.iadd, 1) := by decide +kernel
theorem dX4_keyOf_15 : decode cX4_keyOf 15 = .ok (.iaload, 1) := by decide +kernel
theorem dX4_keyOf_16 : decode cX4_keyOf 16 = .ok (.ireturn, 1) := by decide +kernel
theorem dX4_hallOf_0 : decode cX4_hallOf 0 = .ok (.aload_n 0, 1) := by decide +kernel
theorem dX4_hallOf_1 : decode cX4_hallOf 1 = .ok (.getfield 7, 3) := by decide +kernel
theorem dX4_hallOf_4 : decode cX4_hallOf 4 = .ok (.bipush 24, 2) := by decide +kernel
theorem dX4_hallOf_6 : decode cX4_hallOf 6 = .ok (.bipush 7, 2) := by decide +kernel
theorem dX4_hallOf_8 : decode cX4_hallOf 8 = .ok (.iload_n 1, 1) := by decide +kernel
theorem dX4_hallOf_9 : decode cX4_hallOf 9 = .ok (.imul, 1) := by decide +kernel
theorem dX4_hallOf_10 : decode cX4_hallOf 10 = .ok (.iadd, 1) := by decide +kernel
theorem dX4_hallOf_11 : decode cX4_hallOf 11 = .ok (.bipush 6, 2) := by decide +kernel
theorem dX4_hallOf_13 : decode cX4_hallOf 13 = .ok (.iadd, 1) := by decide +kernel
theorem dX4_hallOf_14 : decode cX4_hallOf 14 = .ok (.iaload, 1) := by decide +kernel
theorem dX4_hallOf_15 : decode cX4_hallOf 15 = .ok (.ireturn, 1) := by decide +kernel
theorem dX4_placeOn_0 : decode cX4_placeOn 0 = .ok (.iconst 1, 1) := by decide +kernel
theorem dX4_placeOn_1 : decode cX4_placeOn 1 = .ok (.istore_n 3, 1) := by decide +kernel
theorem dX4_placeOn_2 : decode cX4_placeOn 2 = .ok (.iload_n 3, 1) := by decide +kernel
theorem dX4_placeOn_3 : decode cX4_placeOn 3 = .ok (.iconst 4, 1) := by decide +kernel
theorem dX4_placeOn_4 : decode cX4_placeOn 4 = .ok (.if_icmp .ge 21, 3) := by decide +kernel
theorem dX4_placeOn_7 : decode cX4_placeOn 7 = .ok (.aload_n 0, 1) := by decide +kernel
theorem dX4_placeOn_8 : decode cX4_placeOn 8 = .ok (.iload_n 2, 1) := by decide +kernel
theorem dX4_placeOn_9 : decode cX4_placeOn 9 = .ok (.iload_n 3, 1) := by decide +kernel
theorem dX4_placeOn_10 : decode cX4_placeOn 10 = .ok (.invokevirtual 24, 3) := by decide +kernel
theorem dX4_placeOn_13 : decode cX4_placeOn 13 = .ok (.iload_n 1, 1) := by decide +kernel
theorem dX4_placeOn_14 : decode cX4_placeOn 14 = .ok (.if_icmp .ne 5, 3) := by decide +kernel
theorem dX4_placeOn_17 : decode cX4_placeOn 17 = .ok (.iload_n 3, 1) := by decide +kernel
theorem dX4_placeOn_18 : decode cX4_placeOn 18 = .ok (.ireturn, 1) := by decide +kernel
theorem dX4_placeOn_19 : decode cX4_placeOn 19 = .ok (.iinc 3 1, 3) := by decide +kernel
theorem dX4_placeOn_22 : decode cX4_placeOn 22 = .ok (.goto (-20), 3) := by decide +kernel
theorem dX4_placeOn_25 : decode cX4_placeOn 25 = .ok (.iconst 0, 1) := by decide +kernel
theorem dX4_placeOn_26 : decode cX4_placeOn 26 = .ok (.ireturn, 1) := by decide +kernel
theorem dX4_of_0 : decode cX4_of 0 = .ok (.aload_n 0, 1) := by decide +kernel
theorem dX4_of_1 : decode cX4_of 1 = .ok (.getfield 7, 3) := by decide +kernel
theorem dX4_of_4 : decode cX4_of 4 = .ok (.bipush 66, 2) := by decide +kernel
theorem dX4_of_6 : decode cX4_of 6 = .ok (.iconst 4, 1) := by decide +kernel
theorem dX4_of_7 : decode cX4_of 7 = .ok (.iload_n 1, 1) := by decide +kernel
theorem dX4_of_8 : decode cX4_of 8 = .ok (.imul, 1) := by decide +kernel
theorem dX4_of_9 : decode cX4_of 9 = .ok (.iadd, 1) := by decide +kernel
theorem dX4_of_10 : decode cX4_of 10 = .ok (.iload_n 2, 1) := by decide +kernel
theorem dX4_of_11 : decode cX4_of 11 = .ok (.iadd, 1) := by decide +kernel
theorem dX4_of_12 : decode cX4_of 12 = .ok (.iaload, 1) := by decide +kernel
theorem dX4_of_13 : decode cX4_of 13 = .ok (.ireturn, 1) := by decide +kernel
theorem dX4_lay4_0 : decode cX4_lay4 0 = .ok (.aload_n 0, 1) := by decide +kernel
theorem dX4_lay4_1 : decode cX4_lay4 1 = .ok (.getfield 7, 3) := by decide +kernel
theorem dX4_lay4_4 : decode cX4_lay4 4 = .ok (.bipush 66, 2) := by decide +kernel
theorem dX4_lay4_6 : decode cX4_lay4 6 = .ok (.iconst 4, 1) := by decide +kernel
theorem dX4_lay4_7 : decode cX4_lay4 7 = .ok (.iload_n 1, 1) := by decide +kernel
theorem dX4_lay4_8 : decode cX4_lay4 8 = .ok (.imul, 1) := by decide +kernel
theorem dX4_lay4_9 : decode cX4_lay4 9 = .ok (.iadd, 1) := by decide +kernel
theorem dX4_lay4_10 : decode cX4_lay4 10 = .ok (.iload_n 2, 1) := by decide +kernel
theorem dX4_lay4_11 : decode cX4_lay4 11 = .ok (.iadd, 1) := by decide +kernel
theorem dX4_lay4_12 : decode cX4_lay4 12 = .ok (.iload_n 3, 1) := by decide +kernel
theorem dX4_lay4_13 : decode cX4_lay4 13 = .ok (.iastore, 1) := by decide +kernel
theorem dX4_lay4_14 : decode cX4_lay4 14 = .ok (.return_, 1) := by decide +kernel
theorem dX4_isOpenNow_0 : decode cX4_isOpenNow 0 = .ok (.aload_n 0, 1) := by decide +kernel
theorem dX4_isOpenNow_1 : decode cX4_isOpenNow 1 = .ok (.getfield 7, 3) := by decide +kernel
theorem dX4_isOpenNow_4 : decode cX4_isOpenNow 4 = .ok (.bipush 8, 2) := by decide +kernel
theorem dX4_isOpenNow_6 : decode cX4_isOpenNow 6 = .ok (.iload_n 1, 1) := by decide +kernel
theorem dX4_isOpenNow_7 : decode cX4_isOpenNow 7 = .ok (.iadd, 1) := by decide +kernel
theorem dX4_isOpenNow_8 : decode cX4_isOpenNow 8 = .ok (.iaload, 1) := by decide +kernel
theorem dX4_isOpenNow_9 : decode cX4_isOpenNow 9 = .ok (.iconst 1, 1) := by decide +kernel
theorem dX4_isOpenNow_10 : decode cX4_isOpenNow 10 = .ok (.if_icmp .ne 7, 3) := by decide +kernel
theorem dX4_isOpenNow_13 : decode cX4_isOpenNow 13 = .ok (.iconst 1, 1) := by decide +kernel
theorem dX4_isOpenNow_14 : decode cX4_isOpenNow 14 = .ok (.goto 4, 3) := by decide +kernel
theorem dX4_isOpenNow_17 : decode cX4_isOpenNow 17 = .ok (.iconst 0, 1) := by decide +kernel
theorem dX4_isOpenNow_18 : decode cX4_isOpenNow 18 = .ok (.ireturn, 1) := by decide +kernel
theorem dX4_standsNow_0 : decode cX4_standsNow 0 = .ok (.aload_n 0, 1) := by decide +kernel
theorem dX4_standsNow_1 : decode cX4_standsNow 1 = .ok (.aload_n 0, 1) := by decide +kernel
theorem dX4_standsNow_2 : decode cX4_standsNow 2 = .ok (.iload_n 1, 1) := by decide +kernel
theorem dX4_standsNow_3 : decode cX4_standsNow 3 = .ok (.iconst 1, 1) := by decide +kernel
theorem dX4_standsNow_4 : decode cX4_standsNow 4 = .ok (.invokevirtual 24, 3) := by decide +kernel
theorem dX4_standsNow_7 : decode cX4_standsNow 7 = .ok (.invokevirtual 28, 3) := by decide +kernel
theorem dX4_standsNow_10 : decode cX4_standsNow 10 = .ok (.ifCond .eq 33, 3) := by decide +kernel
theorem dX4_standsNow_13 : decode cX4_standsNow 13 = .ok (.aload_n 0, 1) := by decide +kernel
theorem dX4_standsNow_14 : decode cX4_standsNow 14 = .ok (.aload_n 0, 1) := by decide +kernel
theorem dX4_standsNow_15 : decode cX4_standsNow 15 = .ok (.iload_n 1, 1) := by decide +kernel
theorem dX4_standsNow_16 : decode cX4_standsNow 16 = .ok (.iconst 2, 1) := by decide +kernel
theorem dX4_standsNow_17 : decode cX4_standsNow 17 = .ok (.invokevirtual 24, 3) := by decide +kernel
theorem dX4_standsNow_20 : decode cX4_standsNow 20 = .ok (.invokevirtual 28, 3) := by decide +kernel
theorem dX4_standsNow_23 : decode cX4_standsNow 23 = .ok (.ifCond .eq 20, 3) := by decide +kernel
theorem dX4_standsNow_26 : decode cX4_standsNow 26 = .ok (.aload_n 0, 1) := by decide +kernel
theorem dX4_standsNow_27 : decode cX4_standsNow 27 = .ok (.aload_n 0, 1) := by decide +kernel
theorem dX4_standsNow_28 : decode cX4_standsNow 28 = .ok (.iload_n 1, 1) := by decide +kernel
theorem dX4_standsNow_29 : decode cX4_standsNow 29 = .ok (.iconst 3, 1) := by decide +kernel
theorem dX4_standsNow_30 : decode cX4_standsNow 30 = .ok (.invokevirtual 24, 3) := by decide +kernel
theorem dX4_standsNow_33 : decode cX4_standsNow 33 = .ok (.invokevirtual 28, 3) := by decide +kernel
theorem dX4_standsNow_36 : decode cX4_standsNow 36 = .ok (.ifCond .eq 7, 3) := by decide +kernel
theorem dX4_standsNow_39 : decode cX4_standsNow 39 = .ok (.iconst 1, 1) := by decide +kernel
theorem dX4_standsNow_40 : decode cX4_standsNow 40 = .ok (.goto 4, 3) := by decide +kernel
theorem dX4_standsNow_43 : decode cX4_standsNow 43 = .ok (.iconst 0, 1) := by decide +kernel
theorem dX4_standsNow_44 : decode cX4_standsNow 44 = .ok (.ireturn, 1) := by decide +kernel
theorem dX4_puts_0 : decode cX4_puts 0 = .ok (.aload_n 0, 1) := by decide +kernel
theorem dX4_puts_1 : decode cX4_puts 1 = .ok (.getfield 7, 3) := by decide +kernel
theorem dX4_puts_4 : decode cX4_puts 4 = .ok (.iconst 1, 1) := by decide +kernel
theorem dX4_puts_5 : decode cX4_puts 5 = .ok (.iaload, 1) := by decide +kernel
theorem dX4_puts_6 : decode cX4_puts 6 = .ok (.istore 5, 2) := by decide +kernel
theorem dX4_puts_8 : decode cX4_puts 8 = .ok (.aload_n 0, 1) := by decide +kernel
theorem dX4_puts_9 : decode cX4_puts 9 = .ok (.iload 5, 2) := by decide +kernel
theorem dX4_puts_11 : decode cX4_puts 11 = .ok (.iconst 0, 1) := by decide +kernel
theorem dX4_puts_12 : decode cX4_puts 12 = .ok (.iload_n 1, 1) := by decide +kernel
theorem dX4_puts_13 : decode cX4_puts 13 = .ok (.invokevirtual 32, 3) := by decide +kernel
theorem dX4_puts_16 : decode cX4_puts 16 = .ok (.aload_n 0, 1) := by decide +kernel
theorem dX4_puts_17 : decode cX4_puts 17 = .ok (.iload 5, 2) := by decide +kernel
theorem dX4_puts_19 : decode cX4_puts 19 = .ok (.iconst 1, 1) := by decide +kernel
theorem dX4_puts_20 : decode cX4_puts 20 = .ok (.iload_n 2, 1) := by decide +kernel
theorem dX4_puts_21 : decode cX4_puts 21 = .ok (.invokevirtual 32, 3) := by decide +kernel
theorem dX4_puts_24 : decode cX4_puts 24 = .ok (.aload_n 0, 1) := by decide +kernel
theorem dX4_puts_25 : decode cX4_puts 25 = .ok (.iload 5, 2) := by decide +kernel
theorem dX4_puts_27 : decode cX4_puts 27 = .ok (.iconst 2, 1) := by decide +kernel
theorem dX4_puts_28 : decode cX4_puts 28 = .ok (.iload_n 3, 1) := by decide +kernel
theorem dX4_puts_29 : decode cX4_puts 29 = .ok (.invokevirtual 32, 3) := by decide +kernel
theorem dX4_puts_32 : decode cX4_puts 32 = .ok (.aload_n 0, 1) := by decide +kernel
theorem dX4_puts_33 : decode cX4_puts 33 = .ok (.iload 5, 2) := by decide +kernel
theorem dX4_puts_35 : decode cX4_puts 35 = .ok (.iconst 3, 1) := by decide +kernel
theorem dX4_puts_36 : decode cX4_puts 36 = .ok (.iload 4, 2) := by decide +kernel
theorem dX4_puts_38 : decode cX4_puts 38 = .ok (.invokevirtual 32, 3) := by decide +kernel
theorem dX4_puts_41 : decode cX4_puts 41 = .ok (.aload_n 0, 1) := by decide +kernel
theorem dX4_puts_42 : decode cX4_puts 42 = .ok (.getfield 7, 3) := by decide +kernel
theorem dX4_puts_45 : decode cX4_puts 45 = .ok (.iconst 1, 1) := by decide +kernel
theorem dX4_puts_46 : decode cX4_puts 46 = .ok (.dup2, 1) := by decide +kernel
theorem dX4_puts_47 : decode cX4_puts 47 = .ok (.iaload, 1) := by decide +kernel
theorem dX4_puts_48 : decode cX4_puts 48 = .ok (.iconst 1, 1) := by decide +kernel
theorem dX4_puts_49 : decode cX4_puts 49 = .ok (.iadd, 1) := by decide +kernel
theorem dX4_puts_50 : decode cX4_puts 50 = .ok (.iastore, 1) := by decide +kernel
theorem dX4_puts_51 : decode cX4_puts 51 = .ok (.iload 5, 2) := by decide +kernel
theorem dX4_puts_53 : decode cX4_puts 53 = .ok (.ireturn, 1) := by decide +kernel
theorem dX4_sends_0 : decode cX4_sends 0 = .ok (.iload_n 2, 1) := by decide +kernel
theorem dX4_sends_1 : decode cX4_sends 1 = .ok (.istore_n 3, 1) := by decide +kernel
theorem dX4_sends_2 : decode cX4_sends 2 = .ok (.iconst 3, 1) := by decide +kernel
theorem dX4_sends_3 : decode cX4_sends 3 = .ok (.istore 4, 2) := by decide +kernel
theorem dX4_sends_5 : decode cX4_sends 5 = .ok (.iload 4, 2) := by decide +kernel
theorem dX4_sends_7 : decode cX4_sends 7 = .ok (.ifCond .le 21, 3) := by decide +kernel
theorem dX4_sends_10 : decode cX4_sends 10 = .ok (.iload_n 3, 1) := by decide +kernel
theorem dX4_sends_11 : decode cX4_sends 11 = .ok (.aload_n 0, 1) := by decide +kernel
theorem dX4_sends_12 : decode cX4_sends 12 = .ok (.iload_n 1, 1) := by decide +kernel
theorem dX4_sends_13 : decode cX4_sends 13 = .ok (.iload 4, 2) := by decide +kernel
theorem dX4_sends_15 : decode cX4_sends 15 = .ok (.invokevirtual 36, 3) := by decide +kernel
theorem dX4_sends_18 : decode cX4_sends 18 = .ok (.invokestatic 39, 3) := by decide +kernel
theorem dX4_sends_21 : decode cX4_sends 21 = .ok (.istore_n 3, 1) := by decide +kernel
theorem dX4_sends_22 : decode cX4_sends 22 = .ok (.iinc 4 (-1), 3) := by decide +kernel
theorem dX4_sends_25 : decode cX4_sends 25 = .ok (.goto (-20), 3) := by decide +kernel
theorem dX4_sends_28 : decode cX4_sends 28 = .ok (.aload_n 0, 1) := by decide +kernel
theorem dX4_sends_29 : decode cX4_sends 29 = .ok (.getfield 7, 3) := by decide +kernel
theorem dX4_sends_32 : decode cX4_sends 32 = .ok (.iconst 3, 1) := by decide +kernel
theorem dX4_sends_33 : decode cX4_sends 33 = .ok (.dup2, 1) := by decide +kernel
theorem dX4_sends_34 : decode cX4_sends 34 = .ok (.iaload, 1) := by decide +kernel
theorem dX4_sends_35 : decode cX4_sends 35 = .ok (.iconst 1, 1) := by decide +kernel
theorem dX4_sends_36 : decode cX4_sends 36 = .ok (.iadd, 1) := by decide +kernel
theorem dX4_sends_37 : decode cX4_sends 37 = .ok (.iastore, 1) := by decide +kernel
theorem dX4_sends_38 : decode cX4_sends 38 = .ok (.aload_n 0, 1) := by decide +kernel
theorem dX4_sends_39 : decode cX4_sends 39 = .ok (.iload_n 1, 1) := by decide +kernel
theorem dX4_sends_40 : decode cX4_sends 40 = .ok (.iconst 0, 1) := by decide +kernel
theorem dX4_sends_41 : decode cX4_sends 41 = .ok (.iload_n 3, 1) := by decide +kernel
theorem dX4_sends_42 : decode cX4_sends 42 = .ok (.iconst 0, 1) := by decide +kernel
theorem dX4_sends_43 : decode cX4_sends 43 = .ok (.invokevirtual 42, 3) := by decide +kernel
theorem dX4_sends_46 : decode cX4_sends 46 = .ok (.ireturn, 1) := by decide +kernel
theorem dX4_answers_0 : decode cX4_answers 0 = .ok (.aload_n 0, 1) := by decide +kernel
theorem dX4_answers_1 : decode cX4_answers 1 = .ok (.getfield 7, 3) := by decide +kernel
theorem dX4_answers_4 : decode cX4_answers 4 = .ok (.iconst 5, 1) := by decide +kernel
theorem dX4_answers_5 : decode cX4_answers 5 = .ok (.dup2, 1) := by decide +kernel
theorem dX4_answers_6 : decode cX4_answers 6 = .ok (.iaload, 1) := by decide +kernel
theorem dX4_answers_7 : decode cX4_answers 7 = .ok (.iconst 1, 1) := by decide +kernel
theorem dX4_answers_8 : decode cX4_answers 8 = .ok (.iadd, 1) := by decide +kernel
theorem dX4_answers_9 : decode cX4_answers 9 = .ok (.iastore, 1) := by decide +kernel
theorem dX4_answers_10 : decode cX4_answers 10 = .ok (.aload_n 0, 1) := by decide +kernel
theorem dX4_answers_11 : decode cX4_answers 11 = .ok (.aload_n 0, 1) := by decide +kernel
theorem dX4_answers_12 : decode cX4_answers 12 = .ok (.getfield 7, 3) := by decide +kernel
theorem dX4_answers_15 : decode cX4_answers 15 = .ok (.bipush 118, 2) := by decide +kernel
theorem dX4_answers_17 : decode cX4_answers 17 = .ok (.iload_n 1, 1) := by decide +kernel
theorem dX4_answers_18 : decode cX4_answers 18 = .ok (.iadd, 1) := by decide +kernel
theorem dX4_answers_19 : decode cX4_answers 19 = .ok (.iaload, 1) := by decide +kernel
theorem dX4_answers_20 : decode cX4_answers 20 = .ok (.iconst 4, 1) := by decide +kernel
theorem dX4_answers_21 : decode cX4_answers 21 = .ok (.iload_n 2, 1) := by decide +kernel
theorem dX4_answers_22 : decode cX4_answers 22 = .ok (.iconst 1, 1) := by decide +kernel
theorem dX4_answers_23 : decode cX4_answers 23 = .ok (.invokevirtual 42, 3) := by decide +kernel
theorem dX4_answers_26 : decode cX4_answers 26 = .ok (.ireturn, 1) := by decide +kernel
theorem dX4_leaves_0 : decode cX4_leaves 0 = .ok (.aload_n 0, 1) := by decide +kernel
theorem dX4_leaves_1 : decode cX4_leaves 1 = .ok (.iload_n 1, 1) := by decide +kernel
theorem dX4_leaves_2 : decode cX4_leaves 2 = .ok (.iconst 0, 1) := by decide +kernel
theorem dX4_leaves_3 : decode cX4_leaves 3 = .ok (.iconst (-1), 1) := by decide +kernel
theorem dX4_leaves_4 : decode cX4_leaves 4 = .ok (.invokevirtual 32, 3) := by decide +kernel
theorem dX4_leaves_7 : decode cX4_leaves 7 = .ok (.return_, 1) := by decide +kernel
theorem dX4_arrives_0 : decode cX4_arrives 0 = .ok (.aload_n 0, 1) := by decide +kernel
theorem dX4_arrives_1 : decode cX4_arrives 1 = .ok (.iload_n 1, 1) := by decide +kernel
theorem dX4_arrives_2 : decode cX4_arrives 2 = .ok (.iconst 0, 1) := by decide +kernel
theorem dX4_arrives_3 : decode cX4_arrives 3 = .ok (.invokevirtual 46, 3) := by decide +kernel
theorem dX4_arrives_6 : decode cX4_arrives 6 = .ok (.istore_n 2, 1) := by decide +kernel
theorem dX4_arrives_7 : decode cX4_arrives 7 = .ok (.aload_n 0, 1) := by decide +kernel
theorem dX4_arrives_8 : decode cX4_arrives 8 = .ok (.iload_n 1, 1) := by decide +kernel
theorem dX4_arrives_9 : decode cX4_arrives 9 = .ok (.iconst 2, 1) := by decide +kernel
theorem dX4_arrives_10 : decode cX4_arrives 10 = .ok (.invokevirtual 46, 3) := by decide +kernel
theorem dX4_arrives_13 : decode cX4_arrives 13 = .ok (.istore_n 3, 1) := by decide +kernel
theorem dX4_arrives_14 : decode cX4_arrives 14 = .ok (.aload_n 0, 1) := by decide +kernel
theorem dX4_arrives_15 : decode cX4_arrives 15 = .ok (.iload_n 1, 1) := by decide +kernel
theorem dX4_arrives_16 : decode cX4_arrives 16 = .ok (.iconst 3, 1) := by decide +kernel
theorem dX4_arrives_17 : decode cX4_arrives 17 = .ok (.invokevirtual 46, 3) := by decide +kernel
theorem dX4_arrives_20 : decode cX4_arrives 20 = .ok (.ifCond .ne 44, 3) := by decide +kernel
theorem dX4_arrives_23 : decode cX4_arrives 23 = .ok (.aload_n 0, 1) := by decide +kernel
theorem dX4_arrives_24 : decode cX4_arrives 24 = .ok (.getfield 7, 3) := by decide +kernel
theorem dX4_arrives_27 : decode cX4_arrives 27 = .ok (.bipush 114, 2) := by decide +kernel
theorem dX4_arrives_29 : decode cX4_arrives 29 = .ok (.aload_n 0, 1) := by decide +kernel
theorem dX4_arrives_30 : decode cX4_arrives 30 = .ok (.iload_n 2, 1) := by decide +kernel
theorem dX4_arrives_31 : decode cX4_arrives 31 = .ok (.invokevirtual 49, 3) := by decide +kernel
theorem dX4_arrives_34 : decode cX4_arrives 34 = .ok (.iadd, 1) := by decide +kernel
theorem dX4_arrives_35 : decode cX4_arrives 35 = .ok (.iload_n 3, 1) := by decide +kernel
theorem dX4_arrives_36 : decode cX4_arrives 36 = .ok (.iastore, 1) := by decide +kernel
theorem dX4_arrives_37 : decode cX4_arrives 37 = .ok (.aload_n 0, 1) := by decide +kernel
theorem dX4_arrives_38 : decode cX4_arrives 38 = .ok (.getfield 7, 3) := by decide +kernel
theorem dX4_arrives_41 : decode cX4_arrives 41 = .ok (.bipush 118, 2) := by decide +kernel
theorem dX4_arrives_43 : decode cX4_arrives 43 = .ok (.aload_n 0, 1) := by decide +kernel
theorem dX4_arrives_44 : decode cX4_arrives 44 = .ok (.iload_n 2, 1) := by decide +kernel
theorem dX4_arrives_45 : decode cX4_arrives 45 = .ok (.invokevirtual 49, 3) := by decide +kernel
theorem dX4_arrives_48 : decode cX4_arrives 48 = .ok (.iadd, 1) := by decide +kernel
theorem dX4_arrives_49 : decode cX4_arrives 49 = .ok (.iload_n 2, 1) := by decide +kernel
theorem dX4_arrives_50 : decode cX4_arrives 50 = .ok (.iastore, 1) := by decide +kernel
theorem dX4_arrives_51 : decode cX4_arrives 51 = .ok (.aload_n 0, 1) := by decide +kernel
theorem dX4_arrives_52 : decode cX4_arrives 52 = .ok (.getfield 7, 3) := by decide +kernel
theorem dX4_arrives_55 : decode cX4_arrives 55 = .ok (.iconst 4, 1) := by decide +kernel
theorem dX4_arrives_56 : decode cX4_arrives 56 = .ok (.dup2, 1) := by decide +kernel
theorem dX4_arrives_57 : decode cX4_arrives 57 = .ok (.iaload, 1) := by decide +kernel
theorem dX4_arrives_58 : decode cX4_arrives 58 = .ok (.iconst 1, 1) := by decide +kernel
theorem dX4_arrives_59 : decode cX4_arrives 59 = .ok (.iadd, 1) := by decide +kernel
theorem dX4_arrives_60 : decode cX4_arrives 60 = .ok (.iastore, 1) := by decide +kernel
theorem dX4_arrives_61 : decode cX4_arrives 61 = .ok (.goto 48, 3) := by decide +kernel
theorem dX4_arrives_64 : decode cX4_arrives 64 = .ok (.iconst 1, 1) := by decide +kernel
theorem dX4_arrives_65 : decode cX4_arrives 65 = .ok (.istore 4, 2) := by decide +kernel
theorem dX4_arrives_67 : decode cX4_arrives 67 = .ok (.iload 4, 2) := by decide +kernel
theorem dX4_arrives_69 : decode cX4_arrives 69 = .ok (.iconst 4, 1) := by decide +kernel
theorem dX4_arrives_70 : decode cX4_arrives 70 = .ok (.if_icmp .ge 21, 3) := by decide +kernel
theorem dX4_arrives_73 : decode cX4_arrives 73 = .ok (.iload_n 3, 1) := by decide +kernel
theorem dX4_arrives_74 : decode cX4_arrives 74 = .ok (.aload_n 0, 1) := by decide +kernel
theorem dX4_arrives_75 : decode cX4_arrives 75 = .ok (.iload_n 2, 1) := by decide +kernel
theorem dX4_arrives_76 : decode cX4_arrives 76 = .ok (.iload 4, 2) := by decide +kernel
theorem dX4_arrives_78 : decode cX4_arrives 78 = .ok (.invokevirtual 36, 3) := by decide +kernel
theorem dX4_arrives_81 : decode cX4_arrives 81 = .ok (.invokestatic 53, 3) := by decide +kernel
theorem dX4_arrives_84 : decode cX4_arrives 84 = .ok (.istore_n 3, 1) := by decide +kernel
theorem dX4_arrives_85 : decode cX4_arrives 85 = .ok (.iinc 4 1, 3) := by decide +kernel
theorem dX4_arrives_88 : decode cX4_arrives 88 = .ok (.goto (-21), 3) := by decide +kernel
theorem dX4_arrives_91 : decode cX4_arrives 91 = .ok (.aload_n 0, 1) := by decide +kernel
theorem dX4_arrives_92 : decode cX4_arrives 92 = .ok (.getfield 7, 3) := by decide +kernel
theorem dX4_arrives_95 : decode cX4_arrives 95 = .ok (.iconst 2, 1) := by decide +kernel
theorem dX4_arrives_96 : decode cX4_arrives 96 = .ok (.iload_n 3, 1) := by decide +kernel
theorem dX4_arrives_97 : decode cX4_arrives 97 = .ok (.iastore, 1) := by decide +kernel
theorem dX4_arrives_98 : decode cX4_arrives 98 = .ok (.aload_n 0, 1) := by decide +kernel
theorem dX4_arrives_99 : decode cX4_arrives 99 = .ok (.getfield 7, 3) := by decide +kernel
theorem dX4_arrives_102 : decode cX4_arrives 102 = .ok (.bipush 6, 2) := by decide +kernel
theorem dX4_arrives_104 : decode cX4_arrives 104 = .ok (.dup2, 1) := by decide +kernel
theorem dX4_arrives_105 : decode cX4_arrives 105 = .ok (.iaload, 1) := by decide +kernel
theorem dX4_arrives_106 : decode cX4_arrives 106 = .ok (.iconst 1, 1) := by decide +kernel
theorem dX4_arrives_107 : decode cX4_arrives 107 = .ok (.iadd, 1) := by decide +kernel
theorem dX4_arrives_108 : decode cX4_arrives 108 = .ok (.iastore, 1) := by decide +kernel
theorem dX4_arrives_109 : decode cX4_arrives 109 = .ok (.aload_n 0, 1) := by decide +kernel
theorem dX4_arrives_110 : decode cX4_arrives 110 = .ok (.iload_n 1, 1) := by decide +kernel
theorem dX4_arrives_111 : decode cX4_arrives 111 = .ok (.invokevirtual 56, 3) := by decide +kernel
theorem dX4_arrives_114 : decode cX4_arrives 114 = .ok (.return_, 1) := by decide +kernel
theorem dX4_moves_0 : decode cX4_moves 0 = .ok (.aload_n 0, 1) := by decide +kernel
theorem dX4_moves_1 : decode cX4_moves 1 = .ok (.iload_n 1, 1) := by decide +kernel
theorem dX4_moves_2 : decode cX4_moves 2 = .ok (.iconst 3, 1) := by decide +kernel
theorem dX4_moves_3 : decode cX4_moves 3 = .ok (.invokevirtual 46, 3) := by decide +kernel
theorem dX4_moves_6 : decode cX4_moves 6 = .ok (.iconst 1, 1) := by decide +kernel
theorem dX4_moves_7 : decode cX4_moves 7 = .ok (.if_icmp .ne 7, 3) := by decide +kernel
theorem dX4_moves_10 : decode cX4_moves 10 = .ok (.iconst 1, 1) := by decide +kernel
theorem dX4_moves_11 : decode cX4_moves 11 = .ok (.goto 4, 3) := by decide +kernel
theorem dX4_moves_14 : decode cX4_moves 14 = .ok (.iconst 0, 1) := by decide +kernel
theorem dX4_moves_15 : decode cX4_moves 15 = .ok (.istore_n 2, 1) := by decide +kernel
theorem dX4_moves_16 : decode cX4_moves 16 = .ok (.aload_n 0, 1) := by decide +kernel
theorem dX4_moves_17 : decode cX4_moves 17 = .ok (.iload_n 1, 1) := by decide +kernel
theorem dX4_moves_18 : decode cX4_moves 18 = .ok (.iconst 1, 1) := by decide +kernel
theorem dX4_moves_19 : decode cX4_moves 19 = .ok (.invokevirtual 46, 3) := by decide +kernel
theorem dX4_moves_22 : decode cX4_moves 22 = .ok (.iload_n 2, 1) := by decide +kernel
theorem dX4_moves_23 : decode cX4_moves 23 = .ok (.ifCond .eq 7, 3) := by decide +kernel
theorem dX4_moves_26 : decode cX4_moves 26 = .ok (.iconst (-1), 1) := by decide +kernel
theorem dX4_moves_27 : decode cX4_moves 27 = .ok (.goto 4, 3) := by decide +kernel
theorem dX4_moves_30 : decode cX4_moves 30 = .ok (.iconst 1, 1) := by decide +kernel
theorem dX4_moves_31 : decode cX4_moves 31 = .ok (.iadd, 1) := by decide +kernel
theorem dX4_moves_32 : decode cX4_moves 32 = .ok (.istore_n 3, 1) := by decide +kernel
theorem dX4_moves_33 : decode cX4_moves 33 = .ok (.aload_n 0, 1) := by decide +kernel
theorem dX4_moves_34 : decode cX4_moves 34 = .ok (.iload_n 1, 1) := by decide +kernel
theorem dX4_moves_35 : decode cX4_moves 35 = .ok (.iconst 0, 1) := by decide +kernel
theorem dX4_moves_36 : decode cX4_moves 36 = .ok (.invokevirtual 46, 3) := by decide +kernel
theorem dX4_moves_39 : decode cX4_moves 39 = .ok (.istore 4, 2) := by decide +kernel
theorem dX4_moves_41 : decode cX4_moves 41 = .ok (.aload_n 0, 1) := by decide +kernel
theorem dX4_moves_42 : decode cX4_moves 42 = .ok (.iload_n 1, 1) := by decide +kernel
theorem dX4_moves_43 : decode cX4_moves 43 = .ok (.iconst 1, 1) := by decide +kernel
theorem dX4_moves_44 : decode cX4_moves 44 = .ok (.iload_n 3, 1) := by decide +kernel
theorem dX4_moves_45 : decode cX4_moves 45 = .ok (.invokevirtual 32, 3) := by decide +kernel
theorem dX4_moves_48 : decode cX4_moves 48 = .ok (.iload_n 3, 1) := by decide +kernel
theorem dX4_moves_49 : decode cX4_moves 49 = .ok (.iconst 1, 1) := by decide +kernel
theorem dX4_moves_50 : decode cX4_moves 50 = .ok (.iconst 3, 1) := by decide +kernel
theorem dX4_moves_51 : decode cX4_moves 51 = .ok (.invokestatic 20, 3) := by decide +kernel
theorem dX4_moves_54 : decode cX4_moves 54 = .ok (.ifCond .ne 11, 3) := by decide +kernel
theorem dX4_moves_57 : decode cX4_moves 57 = .ok (.aload_n 0, 1) := by decide +kernel
theorem dX4_moves_58 : decode cX4_moves 58 = .ok (.iload_n 1, 1) := by decide +kernel
theorem dX4_moves_59 : decode cX4_moves 59 = .ok (.invokevirtual 60, 3) := by decide +kernel
theorem dX4_moves_62 : decode cX4_moves 62 = .ok (.goto 80, 3) := by decide +kernel
theorem dX4_moves_65 : decode cX4_moves 65 = .ok (.aload_n 0, 1) := by decide +kernel
theorem dX4_moves_66 : decode cX4_moves 66 = .ok (.aload_n 0, 1) := by decide +kernel
theorem dX4_moves_67 : decode cX4_moves 67 = .ok (.iload 4, 2) := by decide +kernel
theorem dX4_moves_69 : decode cX4_moves 69 = .ok (.iload_n 3, 1) := by decide +kernel
theorem dX4_moves_70 : decode cX4_moves 70 = .ok (.invokevirtual 24, 3) := by decide +kernel
theorem dX4_moves_73 : decode cX4_moves 73 = .ok (.invokevirtual 28, 3) := by decide +kernel
theorem dX4_moves_76 : decode cX4_moves 76 = .ok (.ifCond .ne 22, 3) := by decide +kernel
theorem dX4_moves_79 : decode cX4_moves 79 = .ok (.aload_n 0, 1) := by decide +kernel
theorem dX4_moves_80 : decode cX4_moves 80 = .ok (.getfield 7, 3) := by decide +kernel
theorem dX4_moves_83 : decode cX4_moves 83 = .ok (.bipush 7, 2) := by decide +kernel
theorem dX4_moves_85 : decode cX4_moves 85 = .ok (.dup2, 1) := by decide +kernel
theorem dX4_moves_86 : decode cX4_moves 86 = .ok (.iaload, 1) := by decide +kernel
theorem dX4_moves_87 : decode cX4_moves 87 = .ok (.iconst 1, 1) := by decide +kernel
theorem dX4_moves_88 : decode cX4_moves 88 = .ok (.iadd, 1) := by decide +kernel
theorem dX4_moves_89 : decode cX4_moves 89 = .ok (.iastore, 1) := by decide +kernel
theorem dX4_moves_90 : decode cX4_moves 90 = .ok (.aload_n 0, 1) := by decide +kernel
theorem dX4_moves_91 : decode cX4_moves 91 = .ok (.iload_n 1, 1) := by decide +kernel
theorem dX4_moves_92 : decode cX4_moves 92 = .ok (.invokevirtual 56, 3) := by decide +kernel
theorem dX4_moves_95 : decode cX4_moves 95 = .ok (.goto 47, 3) := by decide +kernel
theorem dX4_moves_98 : decode cX4_moves 98 = .ok (.aload_n 0, 1) := by decide +kernel
theorem dX4_moves_99 : decode cX4_moves 99 = .ok (.iload 4, 2) := by decide +kernel
theorem dX4_moves_101 : decode cX4_moves 101 = .ok (.iload_n 3, 1) := by decide +kernel
theorem dX4_moves_102 : decode cX4_moves 102 = .ok (.invokevirtual 36, 3) := by decide +kernel
theorem dX4_moves_105 : decode cX4_moves 105 = .ok (.istore 5, 2) := by decide +kernel
theorem dX4_moves_107 : decode cX4_moves 107 = .ok (.aload_n 0, 1) := by decide +kernel
theorem dX4_moves_108 : decode cX4_moves 108 = .ok (.iload_n 1, 1) := by decide +kernel
theorem dX4_moves_109 : decode cX4_moves 109 = .ok (.iconst 2, 1) := by decide +kernel
theorem dX4_moves_110 : decode cX4_moves 110 = .ok (.invokevirtual 46, 3) := by decide +kernel
theorem dX4_moves_113 : decode cX4_moves 113 = .ok (.istore 6, 2) := by decide +kernel
theorem dX4_moves_115 : decode cX4_moves 115 = .ok (.aload_n 0, 1) := by decide +kernel
theorem dX4_moves_116 : decode cX4_moves 116 = .ok (.iload_n 1, 1) := by decide +kernel
theorem dX4_moves_117 : decode cX4_moves 117 = .ok (.iconst 2, 1) := by decide +kernel
theorem dX4_moves_118 : decode cX4_moves 118 = .ok (.iload_n 2, 1) := by decide +kernel
theorem dX4_moves_119 : decode cX4_moves 119 = .ok (.ifCond .eq 13, 3) := by decide +kernel
theorem dX4_moves_122 : decode cX4_moves 122 = .ok (.iload 6, 2) := by decide +kernel
theorem dX4_moves_124 : decode cX4_moves 124 = .ok (.iload 5, 2) := by decide +kernel
theorem dX4_moves_126 : decode cX4_moves 126 = .ok (.invokestatic 39, 3) := by decide +kernel
theorem dX4_moves_129 : decode cX4_moves 129 = .ok (.goto 10, 3) := by decide +kernel
theorem dX4_moves_132 : decode cX4_moves 132 = .ok (.iload 6, 2) := by decide +kernel
theorem dX4_moves_134 : decode cX4_moves 134 = .ok (.iload 5, 2) := by decide +kernel
theorem dX4_moves_136 : decode cX4_moves 136 = .ok (.invokestatic 53, 3) := by decide +kernel
theorem dX4_moves_139 : decode cX4_moves 139 = .ok (.invokevirtual 32, 3) := by decide +kernel
theorem dX4_moves_142 : decode cX4_moves 142 = .ok (.return_, 1) := by decide +kernel
theorem dX4_ticks_0 : decode cX4_ticks 0 = .ok (.iconst 0, 1) := by decide +kernel
theorem dX4_ticks_1 : decode cX4_ticks 1 = .ok (.istore_n 1, 1) := by decide +kernel
theorem dX4_ticks_2 : decode cX4_ticks 2 = .ok (.iload_n 1, 1) := by decide +kernel
theorem dX4_ticks_3 : decode cX4_ticks 3 = .ok (.aload_n 0, 1) := by decide +kernel
theorem dX4_ticks_4 : decode cX4_ticks 4 = .ok (.getfield 7, 3) := by decide +kernel
theorem dX4_ticks_7 : decode cX4_ticks 7 = .ok (.iconst 1, 1) := by decide +kernel
theorem dX4_ticks_8 : decode cX4_ticks 8 = .ok (.iaload, 1) := by decide +kernel
theorem dX4_ticks_9 : decode cX4_ticks 9 = .ok (.if_icmp .ge 14, 3) := by decide +kernel
theorem dX4_ticks_12 : decode cX4_ticks 12 = .ok (.aload_n 0, 1) := by decide +kernel
theorem dX4_ticks_13 : decode cX4_ticks 13 = .ok (.iload_n 1, 1) := by decide +kernel
theorem dX4_ticks_14 : decode cX4_ticks 14 = .ok (.invokevirtual 63, 3) := by decide +kernel
theorem dX4_ticks_17 : decode cX4_ticks 17 = .ok (.iinc 1 1, 3) := by decide +kernel
theorem dX4_ticks_20 : decode cX4_ticks 20 = .ok (.goto (-18), 3) := by decide +kernel
theorem dX4_ticks_23 : decode cX4_ticks 23 = .ok (.iconst 0, 1) := by decide +kernel
theorem dX4_ticks_24 : decode cX4_ticks 24 = .ok (.istore_n 1, 1) := by decide +kernel
theorem dX4_ticks_25 : decode cX4_ticks 25 = .ok (.iconst 0, 1) := by decide +kernel
theorem dX4_ticks_26 : decode cX4_ticks 26 = .ok (.istore_n 2, 1) := by decide +kernel
theorem dX4_ticks_27 : decode cX4_ticks 27 = .ok (.iload_n 2, 1) := by decide +kernel
theorem dX4_ticks_28 : decode cX4_ticks 28 = .ok (.aload_n 0, 1) := by decide +kernel
theorem dX4_ticks_29 : decode cX4_ticks 29 = .ok (.getfield 7, 3) := by decide +kernel
theorem dX4_ticks_32 : decode cX4_ticks 32 = .ok (.iconst 1, 1) := by decide +kernel
theorem dX4_ticks_33 : decode cX4_ticks 33 = .ok (.iaload, 1) := by decide +kernel
theorem dX4_ticks_34 : decode cX4_ticks 34 = .ok (.if_icmp .ge 47, 3) := by decide +kernel
theorem dX4_ticks_37 : decode cX4_ticks 37 = .ok (.aload_n 0, 1) := by decide +kernel
theorem dX4_ticks_38 : decode cX4_ticks 38 = .ok (.iload_n 2, 1) := by decide +kernel
theorem dX4_ticks_39 : decode cX4_ticks 39 = .ok (.iconst 0, 1) := by decide +kernel
theorem dX4_ticks_40 : decode cX4_ticks 40 = .ok (.invokevirtual 46, 3) := by decide +kernel
theorem dX4_ticks_43 : decode cX4_ticks 43 = .ok (.iconst (-1), 1) := by decide +kernel
theorem dX4_ticks_44 : decode cX4_ticks 44 = .ok (.if_icmp .eq 31, 3) := by decide +kernel
theorem dX4_ticks_47 : decode cX4_ticks 47 = .ok (.iconst 0, 1) := by decide +kernel
theorem dX4_ticks_48 : decode cX4_ticks 48 = .ok (.istore_n 3, 1) := by decide +kernel
theorem dX4_ticks_49 : decode cX4_ticks 49 = .ok (.iload_n 3, 1) := by decide +kernel
theorem dX4_ticks_50 : decode cX4_ticks 50 = .ok (.iconst 4, 1) := by decide +kernel
theorem dX4_ticks_51 : decode cX4_ticks 51 = .ok (.if_icmp .ge 21, 3) := by decide +kernel
theorem dX4_ticks_54 : decode cX4_ticks 54 = .ok (.aload_n 0, 1) := by decide +kernel
theorem dX4_ticks_55 : decode cX4_ticks 55 = .ok (.iload_n 1, 1) := by decide +kernel
theorem dX4_ticks_56 : decode cX4_ticks 56 = .ok (.iload_n 3, 1) := by decide +kernel
theorem dX4_ticks_57 : decode cX4_ticks 57 = .ok (.aload_n 0, 1) := by decide +kernel
theorem dX4_ticks_58 : decode cX4_ticks 58 = .ok (.iload_n 2, 1) := by decide +kernel
theorem dX4_ticks_59 : decode cX4_ticks 59 = .ok (.iload_n 3, 1) := by decide +kernel
theorem dX4_ticks_60 : decode cX4_ticks 60 = .ok (.invokevirtual 46, 3) := by decide +kernel
theorem dX4_ticks_63 : decode cX4_ticks 63 = .ok (.invokevirtual 32, 3) := by decide +kernel
theorem dX4_ticks_66 : decode cX4_ticks 66 = .ok (.iinc 3 1, 3) := by decide +kernel
theorem dX4_ticks_69 : decode cX4_ticks 69 = .ok (.goto (-20), 3) := by decide +kernel
theorem dX4_ticks_72 : decode cX4_ticks 72 = .ok (.iinc 1 1, 3) := by decide +kernel
theorem dX4_ticks_75 : decode cX4_ticks 75 = .ok (.iinc 2 1, 3) := by decide +kernel
theorem dX4_ticks_78 : decode cX4_ticks 78 = .ok (.goto (-51), 3) := by decide +kernel
theorem dX4_ticks_81 : decode cX4_ticks 81 = .ok (.aload_n 0, 1) := by decide +kernel
theorem dX4_ticks_82 : decode cX4_ticks 82 = .ok (.getfield 7, 3) := by decide +kernel
theorem dX4_ticks_85 : decode cX4_ticks 85 = .ok (.iconst 1, 1) := by decide +kernel
theorem dX4_ticks_86 : decode cX4_ticks 86 = .ok (.iload_n 1, 1) := by decide +kernel
theorem dX4_ticks_87 : decode cX4_ticks 87 = .ok (.iastore, 1) := by decide +kernel
theorem dX4_ticks_88 : decode cX4_ticks 88 = .ok (.return_, 1) := by decide +kernel
theorem dX4_passes_0 : decode cX4_passes 0 = .ok (.aload_n 0, 1) := by decide +kernel
theorem dX4_passes_1 : decode cX4_passes 1 = .ok (.getfield 7, 3) := by decide +kernel
theorem dX4_passes_4 : decode cX4_passes 4 = .ok (.iconst 4, 1) := by decide +kernel
theorem dX4_passes_5 : decode cX4_passes 5 = .ok (.iaload, 1) := by decide +kernel
theorem dX4_passes_6 : decode cX4_passes 6 = .ok (.aload_n 0, 1) := by decide +kernel
theorem dX4_passes_7 : decode cX4_passes 7 = .ok (.getfield 7, 3) := by decide +kernel
theorem dX4_passes_10 : decode cX4_passes 10 = .ok (.bipush 6, 2) := by decide +kernel
theorem dX4_passes_12 : decode cX4_passes 12 = .ok (.iaload, 1) := by decide +kernel
theorem dX4_passes_13 : decode cX4_passes 13 = .ok (.iadd, 1) := by decide +kernel
theorem dX4_passes_14 : decode cX4_passes 14 = .ok (.istore_n 2, 1) := by decide +kernel
theorem dX4_passes_15 : decode cX4_passes 15 = .ok (.iconst 0, 1) := by decide +kernel
theorem dX4_passes_16 : decode cX4_passes 16 = .ok (.istore_n 3, 1) := by decide +kernel
theorem dX4_passes_17 : decode cX4_passes 17 = .ok (.iload_n 3, 1) := by decide +kernel
theorem dX4_passes_18 : decode cX4_passes 18 = .ok (.iload_n 1, 1) := by decide +kernel
theorem dX4_passes_19 : decode cX4_passes 19 = .ok (.if_icmp .ge 13, 3) := by decide +kernel
theorem dX4_passes_22 : decode cX4_passes 22 = .ok (.aload_n 0, 1) := by decide +kernel
theorem dX4_passes_23 : decode cX4_passes 23 = .ok (.invokevirtual 66, 3) := by decide +kernel
theorem dX4_passes_26 : decode cX4_passes 26 = .ok (.iinc 3 1, 3) := by decide +kernel
theorem dX4_passes_29 : decode cX4_passes 29 = .ok (.goto (-12), 3) := by decide +kernel
theorem dX4_passes_32 : decode cX4_passes 32 = .ok (.aload_n 0, 1) := by decide +kernel
theorem dX4_passes_33 : decode cX4_passes 33 = .ok (.getfield 7, 3) := by decide +kernel
theorem dX4_passes_36 : decode cX4_passes 36 = .ok (.iconst 4, 1) := by decide +kernel
theorem dX4_passes_37 : decode cX4_passes 37 = .ok (.iaload, 1) := by decide +kernel
theorem dX4_passes_38 : decode cX4_passes 38 = .ok (.aload_n 0, 1) := by decide +kernel
theorem dX4_passes_39 : decode cX4_passes 39 = .ok (.getfield 7, 3) := by decide +kernel
theorem dX4_passes_42 : decode cX4_passes 42 = .ok (.bipush 6, 2) := by decide +kernel
theorem dX4_passes_44 : decode cX4_passes 44 = .ok (.iaload, 1) := by decide +kernel
theorem dX4_passes_45 : decode cX4_passes 45 = .ok (.iadd, 1) := by decide +kernel
theorem dX4_passes_46 : decode cX4_passes 46 = .ok (.iload_n 2, 1) := by decide +kernel
theorem dX4_passes_47 : decode cX4_passes 47 = .ok (.isub, 1) := by decide +kernel
theorem dX4_passes_48 : decode cX4_passes 48 = .ok (.ireturn, 1) := by decide +kernel
theorem dX4_arrivesIn_0 : decode cX4_arrivesIn 0 = .ok (.aload_n 0, 1) := by decide +kernel
theorem dX4_arrivesIn_1 : decode cX4_arrivesIn 1 = .ok (.iload_n 1, 1) := by decide +kernel
theorem dX4_arrivesIn_2 : decode cX4_arrivesIn 2 = .ok (.iconst 0, 1) := by decide +kernel
theorem dX4_arrivesIn_3 : decode cX4_arrivesIn 3 = .ok (.invokevirtual 46, 3) := by decide +kernel
theorem dX4_arrivesIn_6 : decode cX4_arrivesIn 6 = .ok (.istore_n 3, 1) := by decide +kernel
theorem dX4_arrivesIn_7 : decode cX4_arrivesIn 7 = .ok (.aload_n 0, 1) := by decide +kernel
theorem dX4_arrivesIn_8 : decode cX4_arrivesIn 8 = .ok (.iload_n 1, 1) := by decide +kernel
theorem dX4_arrivesIn_9 : decode cX4_arrivesIn 9 = .ok (.iconst 1, 1) := by decide +kernel
theorem dX4_arrivesIn_10 : decode cX4_arrivesIn 10 = .ok (.invokevirtual 46, 3) := by decide +kernel
theorem dX4_arrivesIn_13 : decode cX4_arrivesIn 13 = .ok (.istore 4, 2) := by decide +kernel
theorem dX4_arrivesIn_15 : decode cX4_arrivesIn 15 = .ok (.aload_n 0, 1) := by decide +kernel
theorem dX4_arrivesIn_16 : decode cX4_arrivesIn 16 = .ok (.iload_n 1, 1) := by decide +kernel
theorem dX4_arrivesIn_17 : decode cX4_arrivesIn 17 = .ok (.iconst 3, 1) := by decide +kernel
theorem dX4_arrivesIn_18 : decode cX4_arrivesIn 18 = .ok (.invokevirtual 46, 3) := by decide +kernel
theorem dX4_arrivesIn_21 : decode cX4_arrivesIn 21 = .ok (.iconst 1, 1) := by decide +kernel
theorem dX4_arrivesIn_22 : decode cX4_arrivesIn 22 = .ok (.if_icmp .ne 7, 3) := by decide +kernel
theorem dX4_arrivesIn_25 : decode cX4_arrivesIn 25 = .ok (.iconst 1, 1) := by decide +kernel
theorem dX4_arrivesIn_26 : decode cX4_arrivesIn 26 = .ok (.goto 4, 3) := by decide +kernel
theorem dX4_arrivesIn_29 : decode cX4_arrivesIn 29 = .ok (.iconst 0, 1) := by decide +kernel
theorem dX4_arrivesIn_30 : decode cX4_arrivesIn 30 = .ok (.istore 5, 2) := by decide +kernel
theorem dX4_arrivesIn_32 : decode cX4_arrivesIn 32 = .ok (.iconst 1, 1) := by decide +kernel
theorem dX4_arrivesIn_33 : decode cX4_arrivesIn 33 = .ok (.istore 6, 2) := by decide +kernel
theorem dX4_arrivesIn_35 : decode cX4_arrivesIn 35 = .ok (.iload 6, 2) := by decide +kernel
theorem dX4_arrivesIn_37 : decode cX4_arrivesIn 37 = .ok (.iconst 4, 1) := by decide +kernel
theorem dX4_arrivesIn_38 : decode cX4_arrivesIn 38 = .ok (.if_icmp .ge 74, 3) := by decide +kernel
theorem dX4_arrivesIn_41 : decode cX4_arrivesIn 41 = .ok (.iload 5, 2) := by decide +kernel
theorem dX4_arrivesIn_43 : decode cX4_arrivesIn 43 = .ok (.ifCond .eq 18, 3) := by decide +kernel
theorem dX4_arrivesIn_46 : decode cX4_arrivesIn 46 = .ok (.iload 6, 2) := by decide +kernel
theorem dX4_arrivesIn_48 : decode cX4_arrivesIn 48 = .ok (.iload 4, 2) := by decide +kernel
theorem dX4_arrivesIn_50 : decode cX4_arrivesIn 50 = .ok (.if_icmp .ge 7, 3) := by decide +kernel
theorem dX4_arrivesIn_53 : decode cX4_arrivesIn 53 = .ok (.iconst 1, 1) := by decide +kernel
theorem dX4_arrivesIn_54 : decode cX4_arrivesIn 54 = .ok (.goto 19, 3) := by decide +kernel
theorem dX4_arrivesIn_57 : decode cX4_arrivesIn 57 = .ok (.iconst 0, 1) := by decide +kernel
theorem dX4_arrivesIn_58 : decode cX4_arrivesIn 58 = .ok (.goto 15, 3) := by decide +kernel
theorem dX4_arrivesIn_61 : decode cX4_arrivesIn 61 = .ok (.iload 6, 2) := by decide +kernel
theorem dX4_arrivesIn_63 : decode cX4_arrivesIn 63 = .ok (.iload 4, 2) := by decide +kernel
theorem dX4_arrivesIn_65 : decode cX4_arrivesIn 65 = .ok (.if_icmp .le 7, 3) := by decide +kernel
theorem dX4_arrivesIn_68 : decode cX4_arrivesIn 68 = .ok (.iconst 1, 1) := by decide +kernel
theorem dX4_arrivesIn_69 : decode cX4_arrivesIn 69 = .ok (.goto 4, 3) := by decide +kernel
theorem dX4_arrivesIn_72 : decode cX4_arrivesIn 72 = .ok (.iconst 0, 1) := by decide +kernel
theorem dX4_arrivesIn_73 : decode cX4_arrivesIn 73 = .ok (.istore 7, 2) := by decide +kernel
theorem dX4_arrivesIn_75 : decode cX4_arrivesIn 75 = .ok (.aload_n 0, 1) := by decide +kernel
theorem dX4_arrivesIn_76 : decode cX4_arrivesIn 76 = .ok (.iload_n 3, 1) := by decide +kernel
theorem dX4_arrivesIn_77 : decode cX4_arrivesIn 77 = .ok (.iload 6, 2) := by decide +kernel
theorem dX4_arrivesIn_79 : decode cX4_arrivesIn 79 = .ok (.invokevirtual 24, 3) := by decide +kernel
theorem dX4_arrivesIn_82 : decode cX4_arrivesIn 82 = .ok (.istore 8, 2) := by decide +kernel
theorem dX4_arrivesIn_84 : decode cX4_arrivesIn 84 = .ok (.iload 7, 2) := by decide +kernel
theorem dX4_arrivesIn_86 : decode cX4_arrivesIn 86 = .ok (.ifCond .eq 20, 3) := by decide +kernel
theorem dX4_arrivesIn_89 : decode cX4_arrivesIn 89 = .ok (.aload_n 0, 1) := by decide +kernel
theorem dX4_arrivesIn_90 : decode cX4_arrivesIn 90 = .ok (.iload 8, 2) := by decide +kernel
theorem dX4_arrivesIn_92 : decode cX4_arrivesIn 92 = .ok (.invokevirtual 28, 3) := by decide +kernel
theorem dX4_arrivesIn_95 : decode cX4_arrivesIn 95 = .ok (.ifCond .eq 9, 3) := by decide +kernel
theorem dX4_arrivesIn_98 : decode cX4_arrivesIn 98 = .ok (.iload 8, 2) := by decide +kernel
theorem dX4_arrivesIn_100 : decode cX4_arrivesIn 100 = .ok (.iload_n 2, 1) := by decide +kernel
theorem dX4_arrivesIn_101 : decode cX4_arrivesIn 101 = .ok (.if_icmp .ne 5, 3) := by decide +kernel
theorem dX4_arrivesIn_104 : decode cX4_arrivesIn 104 = .ok (.iconst (-1), 1) := by decide +kernel
theorem dX4_arrivesIn_105 : decode cX4_arrivesIn 105 = .ok (.ireturn, 1) := by decide +kernel
theorem dX4_arrivesIn_106 : decode cX4_arrivesIn 106 = .ok (.iinc 6 1, 3) := by decide +kernel
theorem dX4_arrivesIn_109 : decode cX4_arrivesIn 109 = .ok (.goto (-74), 3) := by decide +kernel
theorem dX4_arrivesIn_112 : decode cX4_arrivesIn 112 = .ok (.iload 5, 2) := by decide +kernel
theorem dX4_arrivesIn_114 : decode cX4_arrivesIn 114 = .ok (.ifCond .eq 8, 3) := by decide +kernel
theorem dX4_arrivesIn_117 : decode cX4_arrivesIn 117 = .ok (.iload 4, 2) := by decide +kernel
theorem dX4_arrivesIn_119 : decode cX4_arrivesIn 119 = .ok (.goto 7, 3) := by decide +kernel
theorem dX4_arrivesIn_122 : decode cX4_arrivesIn 122 = .ok (.iconst 4, 1) := by decide +kernel
theorem dX4_arrivesIn_123 : decode cX4_arrivesIn 123 = .ok (.iload 4, 2) := by decide +kernel
theorem dX4_arrivesIn_125 : decode cX4_arrivesIn 125 = .ok (.isub, 1) := by decide +kernel
theorem dX4_arrivesIn_126 : decode cX4_arrivesIn 126 = .ok (.ireturn, 1) := by decide +kernel
theorem dX4_lays_0 : decode cX4_lays 0 = .ok (.bipush 24, 2) := by decide +kernel
theorem dX4_lays_2 : decode cX4_lays 2 = .ok (.bipush 7, 2) := by decide +kernel
theorem dX4_lays_4 : decode cX4_lays 4 = .ok (.aload_n 0, 1) := by decide +kernel
theorem dX4_lays_5 : decode cX4_lays 5 = .ok (.getfield 7, 3) := by decide +kernel
theorem dX4_lays_8 : decode cX4_lays 8 = .ok (.iconst 0, 1) := by decide +kernel
theorem dX4_lays_9 : decode cX4_lays 9 = .ok (.iaload, 1) := by decide +kernel
theorem dX4_lays_10 : decode cX4_lays 10 = .ok (.imul, 1) := by decide +kernel
theorem dX4_lays_11 : decode cX4_lays 11 = .ok (.iadd, 1) := by decide +kernel
theorem dX4_lays_12 : decode cX4_lays 12 = .ok (.istore 5, 2) := by decide +kernel
theorem dX4_lays_14 : decode cX4_lays 14 = .ok (.aload_n 0, 1) := by decide +kernel
theorem dX4_lays_15 : decode cX4_lays 15 = .ok (.getfield 7, 3) := by decide +kernel
theorem dX4_lays_18 : decode cX4_lays 18 = .ok (.iload 5, 2) := by decide +kernel
theorem dX4_lays_20 : decode cX4_lays 20 = .ok (.iload_n 1, 1) := by decide +kernel
theorem dX4_lays_21 : decode cX4_lays 21 = .ok (.iastore, 1) := by decide +kernel
theorem dX4_lays_22 : decode cX4_lays 22 = .ok (.aload_n 0, 1) := by decide +kernel
theorem dX4_lays_23 : decode cX4_lays 23 = .ok (.getfield 7, 3) := by decide +kernel
theorem dX4_lays_26 : decode cX4_lays 26 = .ok (.iload 5, 2) := by decide +kernel
theorem dX4_lays_28 : decode cX4_lays 28 = .ok (.iconst 1, 1) := by decide +kernel
theorem dX4_lays_29 : decode cX4_lays 29 = .ok (.iadd, 1) := by decide +kernel
theorem dX4_lays_30 : decode cX4_lays 30 = .ok (.iload_n 2, 1) := by decide +kernel
theorem dX4_lays_31 : decode cX4_lays 31 = .ok (.iastore, 1) := by decide +kernel
theorem dX4_lays_32 : decode cX4_lays 32 = .ok (.aload_n 0, 1) := by decide +kernel
theorem dX4_lays_33 : decode cX4_lays 33 = .ok (.getfield 7, 3) := by decide +kernel
theorem dX4_lays_36 : decode cX4_lays 36 = .ok (.iload 5, 2) := by decide +kernel
theorem dX4_lays_38 : decode cX4_lays 38 = .ok (.iconst 2, 1) := by decide +kernel
theorem dX4_lays_39 : decode cX4_lays 39 = .ok (.iadd, 1) := by decide +kernel
theorem dX4_lays_40 : decode cX4_lays 40 = .ok (.iload_n 3, 1) := by decide +kernel
theorem dX4_lays_41 : decode cX4_lays 41 = .ok (.iastore, 1) := by decide +kernel
theorem dX4_lays_42 : decode cX4_lays 42 = .ok (.aload_n 0, 1) := by decide +kernel
theorem dX4_lays_43 : decode cX4_lays 43 = .ok (.getfield 7, 3) := by decide +kernel
theorem dX4_lays_46 : decode cX4_lays 46 = .ok (.iload 5, 2) := by decide +kernel
theorem dX4_lays_48 : decode cX4_lays 48 = .ok (.iconst 3, 1) := by decide +kernel
theorem dX4_lays_49 : decode cX4_lays 49 = .ok (.iadd, 1) := by decide +kernel
theorem dX4_lays_50 : decode cX4_lays 50 = .ok (.aload_n 0, 1) := by decide +kernel
theorem dX4_lays_51 : decode cX4_lays 51 = .ok (.getfield 7, 3) := by decide +kernel
theorem dX4_lays_54 : decode cX4_lays 54 = .ok (.bipush 16, 2) := by decide +kernel
theorem dX4_lays_56 : decode cX4_lays 56 = .ok (.iload_n 1, 1) := by decide +kernel
theorem dX4_lays_57 : decode cX4_lays 57 = .ok (.iadd, 1) := by decide +kernel
theorem dX4_lays_58 : decode cX4_lays 58 = .ok (.iaload, 1) := by decide +kernel
theorem dX4_lays_59 : decode cX4_lays 59 = .ok (.iastore, 1) := by decide +kernel
theorem dX4_lays_60 : decode cX4_lays 60 = .ok (.aload_n 0, 1) := by decide +kernel
theorem dX4_lays_61 : decode cX4_lays 61 = .ok (.getfield 7, 3) := by decide +kernel
theorem dX4_lays_64 : decode cX4_lays 64 = .ok (.iload 5, 2) := by decide +kernel
theorem dX4_lays_66 : decode cX4_lays 66 = .ok (.iconst 4, 1) := by decide +kernel
theorem dX4_lays_67 : decode cX4_lays 67 = .ok (.iadd, 1) := by decide +kernel
theorem dX4_lays_68 : decode cX4_lays 68 = .ok (.aload_n 0, 1) := by decide +kernel
theorem dX4_lays_69 : decode cX4_lays 69 = .ok (.getfield 7, 3) := by decide +kernel
theorem dX4_lays_72 : decode cX4_lays 72 = .ok (.bipush 16, 2) := by decide +kernel
theorem dX4_lays_74 : decode cX4_lays 74 = .ok (.iload_n 2, 1) := by decide +kernel
theorem dX4_lays_75 : decode cX4_lays 75 = .ok (.iadd, 1) := by decide +kernel
theorem dX4_lays_76 : decode cX4_lays 76 = .ok (.iaload, 1) := by decide +kernel
theorem dX4_lays_77 : decode cX4_lays 77 = .ok (.iastore, 1) := by decide +kernel
theorem dX4_lays_78 : decode cX4_lays 78 = .ok (.aload_n 0, 1) := by decide +kernel
theorem dX4_lays_79 : decode cX4_lays 79 = .ok (.getfield 7, 3) := by decide +kernel
theorem dX4_lays_82 : decode cX4_lays 82 = .ok (.iload 5, 2) := by decide +kernel
theorem dX4_lays_84 : decode cX4_lays 84 = .ok (.iconst 5, 1) := by decide +kernel
theorem dX4_lays_85 : decode cX4_lays 85 = .ok (.iadd, 1) := by decide +kernel
theorem dX4_lays_86 : decode cX4_lays 86 = .ok (.aload_n 0, 1) := by decide +kernel
theorem dX4_lays_87 : decode cX4_lays 87 = .ok (.getfield 7, 3) := by decide +kernel
theorem dX4_lays_90 : decode cX4_lays 90 = .ok (.bipush 16, 2) := by decide +kernel
theorem dX4_lays_92 : decode cX4_lays 92 = .ok (.iload_n 3, 1) := by decide +kernel
theorem dX4_lays_93 : decode cX4_lays 93 = .ok (.iadd, 1) := by decide +kernel
theorem dX4_lays_94 : decode cX4_lays 94 = .ok (.iaload, 1) := by decide +kernel
theorem dX4_lays_95 : decode cX4_lays 95 = .ok (.iastore, 1) := by decide +kernel
theorem dX4_lays_96 : decode cX4_lays 96 = .ok (.aload_n 0, 1) := by decide +kernel
theorem dX4_lays_97 : decode cX4_lays 97 = .ok (.getfield 7, 3) := by decide +kernel
theorem dX4_lays_100 : decode cX4_lays 100 = .ok (.iload 5, 2) := by decide +kernel
theorem dX4_lays_102 : decode cX4_lays 102 = .ok (.bipush 6, 2) := by decide +kernel
theorem dX4_lays_104 : decode cX4_lays 104 = .ok (.iadd, 1) := by decide +kernel
theorem dX4_lays_105 : decode cX4_lays 105 = .ok (.iload 4, 2) := by decide +kernel
theorem dX4_lays_107 : decode cX4_lays 107 = .ok (.iastore, 1) := by decide +kernel
theorem dX4_lays_108 : decode cX4_lays 108 = .ok (.aload_n 0, 1) := by decide +kernel
theorem dX4_lays_109 : decode cX4_lays 109 = .ok (.getfield 7, 3) := by decide +kernel
theorem dX4_lays_112 : decode cX4_lays 112 = .ok (.iconst 0, 1) := by decide +kernel
theorem dX4_lays_113 : decode cX4_lays 113 = .ok (.dup2, 1) := by decide +kernel
theorem dX4_lays_114 : decode cX4_lays 114 = .ok (.iaload, 1) := by decide +kernel
theorem dX4_lays_115 : decode cX4_lays 115 = .ok (.iconst 1, 1) := by decide +kernel
theorem dX4_lays_116 : decode cX4_lays 116 = .ok (.iadd, 1) := by decide +kernel
theorem dX4_lays_117 : decode cX4_lays 117 = .ok (.iastore, 1) := by decide +kernel
theorem dX4_lays_118 : decode cX4_lays 118 = .ok (.aload_n 0, 1) := by decide +kernel
theorem dX4_lays_119 : decode cX4_lays 119 = .ok (.getfield 7, 3) := by decide +kernel
theorem dX4_lays_122 : decode cX4_lays 122 = .ok (.iconst 0, 1) := by decide +kernel
theorem dX4_lays_123 : decode cX4_lays 123 = .ok (.iaload, 1) := by decide +kernel
theorem dX4_lays_124 : decode cX4_lays 124 = .ok (.iconst 1, 1) := by decide +kernel
theorem dX4_lays_125 : decode cX4_lays 125 = .ok (.isub, 1) := by decide +kernel
theorem dX4_lays_126 : decode cX4_lays 126 = .ok (.ireturn, 1) := by decide +kernel
theorem dX4_canLay_0 : decode cX4_canLay 0 = .ok (.aload_n 0, 1) := by decide +kernel
theorem dX4_canLay_1 : decode cX4_canLay 1 = .ok (.getfield 7, 3) := by decide +kernel
theorem dX4_canLay_4 : decode cX4_canLay 4 = .ok (.iconst 0, 1) := by decide +kernel
theorem dX4_canLay_5 : decode cX4_canLay 5 = .ok (.iaload, 1) := by decide +kernel
theorem dX4_canLay_6 : decode cX4_canLay 6 = .ok (.bipush 6, 2) := by decide +kernel
theorem dX4_canLay_8 : decode cX4_canLay 8 = .ok (.if_icmp .ge 31, 3) := by decide +kernel
theorem dX4_canLay_11 : decode cX4_canLay 11 = .ok (.aload_n 0, 1) := by decide +kernel
theorem dX4_canLay_12 : decode cX4_canLay 12 = .ok (.iload_n 1, 1) := by decide +kernel
theorem dX4_canLay_13 : decode cX4_canLay 13 = .ok (.invokevirtual 28, 3) := by decide +kernel
theorem dX4_canLay_16 : decode cX4_canLay 16 = .ok (.ifCond .eq 23, 3) := by decide +kernel
theorem dX4_canLay_19 : decode cX4_canLay 19 = .ok (.aload_n 0, 1) := by decide +kernel
theorem dX4_canLay_20 : decode cX4_canLay 20 = .ok (.iload_n 2, 1) := by decide +kernel
theorem dX4_canLay_21 : decode cX4_canLay 21 = .ok (.invokevirtual 28, 3) := by decide +kernel
theorem dX4_canLay_24 : decode cX4_canLay 24 = .ok (.ifCond .eq 15, 3) := by decide +kernel
theorem dX4_canLay_27 : decode cX4_canLay 27 = .ok (.aload_n 0, 1) := by decide +kernel
theorem dX4_canLay_28 : decode cX4_canLay 28 = .ok (.iload_n 3, 1) := by decide +kernel
theorem dX4_canLay_29 : decode cX4_canLay 29 = .ok (.invokevirtual 28, 3) := by decide +kernel
theorem dX4_canLay_32 : decode cX4_canLay 32 = .ok (.ifCond .eq 7, 3) := by decide +kernel
theorem dX4_canLay_35 : decode cX4_canLay 35 = .ok (.iconst 1, 1) := by decide +kernel
theorem dX4_canLay_36 : decode cX4_canLay 36 = .ok (.goto 4, 3) := by decide +kernel
theorem dX4_canLay_39 : decode cX4_canLay 39 = .ok (.iconst 0, 1) := by decide +kernel
theorem dX4_canLay_40 : decode cX4_canLay 40 = .ok (.ireturn, 1) := by decide +kernel
theorem dX4_canTakeUp_0 : decode cX4_canTakeUp 0 = .ok (.aload_n 0, 1) := by decide +kernel
theorem dX4_canTakeUp_1 : decode cX4_canTakeUp 1 = .ok (.getfield 7, 3) := by decide +kernel
theorem dX4_canTakeUp_4 : decode cX4_canTakeUp 4 = .ok (.iconst 0, 1) := by decide +kernel
theorem dX4_canTakeUp_5 : decode cX4_canTakeUp 5 = .ok (.iaload, 1) := by decide +kernel
theorem dX4_canTakeUp_6 : decode cX4_canTakeUp 6 = .ok (.ifCond .le 7, 3) := by decide +kernel
theorem dX4_canTakeUp_9 : decode cX4_canTakeUp 9 = .ok (.iconst 1, 1) := by decide +kernel
theorem dX4_canTakeUp_10 : decode cX4_canTakeUp 10 = .ok (.goto 4, 3) := by decide +kernel
theorem dX4_canTakeUp_13 : decode cX4_canTakeUp 13 = .ok (.iconst 0, 1) := by decide +kernel
theorem dX4_canTakeUp_14 : decode cX4_canTakeUp 14 = .ok (.istore_n 1, 1) := by decide +kernel
theorem dX4_canTakeUp_15 : decode cX4_canTakeUp 15 = .ok (.iconst 0, 1) := by decide +kernel
theorem dX4_canTakeUp_16 : decode cX4_canTakeUp 16 = .ok (.istore_n 2, 1) := by decide +kernel
theorem dX4_canTakeUp_17 : decode cX4_canTakeUp 17 = .ok (.iload_n 2, 1) := by decide +kernel
theorem dX4_canTakeUp_18 : decode cX4_canTakeUp 18 = .ok (.aload_n 0, 1) := by decide +kernel
theorem dX4_canTakeUp_19 : decode cX4_canTakeUp 19 = .ok (.getfield 7, 3) := by decide +kernel
theorem dX4_canTakeUp_22 : decode cX4_canTakeUp 22 = .ok (.iconst 1, 1) := by decide +kernel
theorem dX4_canTakeUp_23 : decode cX4_canTakeUp 23 = .ok (.iaload, 1) := by decide +kernel
theorem dX4_canTakeUp_24 : decode cX4_canTakeUp 24 = .ok (.if_icmp .ge 36, 3) := by decide +kernel
theorem dX4_canTakeUp_27 : decode cX4_canTakeUp 27 = .ok (.iload_n 1, 1) := by decide +kernel
theorem dX4_canTakeUp_28 : decode cX4_canTakeUp 28 = .ok (.ifCond .eq 24, 3) := by decide +kernel
theorem dX4_canTakeUp_31 : decode cX4_canTakeUp 31 = .ok (.aload_n 0, 1) := by decide +kernel
theorem dX4_canTakeUp_32 : decode cX4_canTakeUp 32 = .ok (.iload_n 2, 1) := by decide +kernel
theorem dX4_canTakeUp_33 : decode cX4_canTakeUp 33 = .ok (.iconst 0, 1) := by decide +kernel
theorem dX4_canTakeUp_34 : decode cX4_canTakeUp 34 = .ok (.invokevirtual 46, 3) := by decide +kernel
theorem dX4_canTakeUp_37 : decode cX4_canTakeUp 37 = .ok (.aload_n 0, 1) := by decide +kernel
theorem dX4_canTakeUp_38 : decode cX4_canTakeUp 38 = .ok (.getfield 7, 3) := by decide +kernel
theorem dX4_canTakeUp_41 : decode cX4_canTakeUp 41 = .ok (.iconst 0, 1) := by decide +kernel
theorem dX4_canTakeUp_42 : decode cX4_canTakeUp 42 = .ok (.iaload, 1) := by decide +kernel
theorem dX4_canTakeUp_43 : decode cX4_canTakeUp 43 = .ok (.iconst 1, 1) := by decide +kernel
theorem dX4_canTakeUp_44 : decode cX4_canTakeUp 44 = .ok (.isub, 1) := by decide +kernel
theorem dX4_canTakeUp_45 : decode cX4_canTakeUp 45 = .ok (.if_icmp .eq 7, 3) := by decide +kernel
theorem dX4_canTakeUp_48 : decode cX4_canTakeUp 48 = .ok (.iconst 1, 1) := by decide +kernel
theorem dX4_canTakeUp_49 : decode cX4_canTakeUp 49 = .ok (.goto 4, 3) := by decide +kernel
theorem dX4_canTakeUp_52 : decode cX4_canTakeUp 52 = .ok (.iconst 0, 1) := by decide +kernel
theorem dX4_canTakeUp_53 : decode cX4_canTakeUp 53 = .ok (.istore_n 1, 1) := by decide +kernel
theorem dX4_canTakeUp_54 : decode cX4_canTakeUp 54 = .ok (.iinc 2 1, 3) := by decide +kernel
theorem dX4_canTakeUp_57 : decode cX4_canTakeUp 57 = .ok (.goto (-40), 3) := by decide +kernel
theorem dX4_canTakeUp_60 : decode cX4_canTakeUp 60 = .ok (.iload_n 1, 1) := by decide +kernel
theorem dX4_canTakeUp_61 : decode cX4_canTakeUp 61 = .ok (.ireturn, 1) := by decide +kernel
theorem dX4_isRoom_0 : decode cX4_isRoom 0 = .ok (.aload_n 0, 1) := by decide +kernel
theorem dX4_isRoom_1 : decode cX4_isRoom 1 = .ok (.getfield 7, 3) := by decide +kernel
theorem dX4_isRoom_4 : decode cX4_isRoom 4 = .ok (.iconst 1, 1) := by decide +kernel
theorem dX4_isRoom_5 : decode cX4_isRoom 5 = .ok (.iaload, 1) := by decide +kernel
theorem dX4_isRoom_6 : decode cX4_isRoom 6 = .ok (.bipush 12, 2) := by decide +kernel
theorem dX4_isRoom_8 : decode cX4_isRoom 8 = .ok (.if_icmp .ge 7, 3) := by decide +kernel
theorem dX4_isRoom_11 : decode cX4_isRoom 11 = .ok (.iconst 1, 1) := by decide +kernel
theorem dX4_isRoom_12 : decode cX4_isRoom 12 = .ok (.goto 4, 3) := by decide +kernel
theorem dX4_isRoom_15 : decode cX4_isRoom 15 = .ok (.iconst 0, 1) := by decide +kernel
theorem dX4_isRoom_16 : decode cX4_isRoom 16 = .ok (.ireturn, 1) := by decide +kernel
theorem dX4_canAnswer_0 : decode cX4_canAnswer 0 = .ok (.aload_n 0, 1) := by decide +kernel
theorem dX4_canAnswer_1 : decode cX4_canAnswer 1 = .ok (.getfield 7, 3) := by decide +kernel
theorem dX4_canAnswer_4 : decode cX4_canAnswer 4 = .ok (.bipush 118, 2) := by decide +kernel
theorem dX4_canAnswer_6 : decode cX4_canAnswer 6 = .ok (.iload_n 1, 1) := by decide +kernel
theorem dX4_canAnswer_7 : decode cX4_canAnswer 7 = .ok (.iadd, 1) := by decide +kernel
theorem dX4_canAnswer_8 : decode cX4_canAnswer 8 = .ok (.iaload, 1) := by decide +kernel
theorem dX4_canAnswer_9 : decode cX4_canAnswer 9 = .ok (.iconst (-1), 1) := by decide +kernel
theorem dX4_canAnswer_10 : decode cX4_canAnswer 10 = .ok (.if_icmp .eq 14, 3) := by decide +kernel
theorem dX4_canAnswer_13 : decode cX4_canAnswer 13 = .ok (.aload_n 0, 1) := by decide +kernel
theorem dX4_canAnswer_14 : decode cX4_canAnswer 14 = .ok (.invokevirtual 69, 3) := by decide +kernel
theorem dX4_canAnswer_17 : decode cX4_canAnswer 17 = .ok (.ifCond .eq 7, 3) := by decide +kernel
theorem dX4_canAnswer_20 : decode cX4_canAnswer 20 = .ok (.iconst 1, 1) := by decide +kernel
theorem dX4_canAnswer_21 : decode cX4_canAnswer 21 = .ok (.goto 4, 3) := by decide +kernel
theorem dX4_canAnswer_24 : decode cX4_canAnswer 24 = .ok (.iconst 0, 1) := by decide +kernel
theorem dX4_canAnswer_25 : decode cX4_canAnswer 25 = .ok (.ireturn, 1) := by decide +kernel
theorem dX4_copies_0 : decode cX4_copies 0 = .ok (.iconst 0, 1) := by decide +kernel
theorem dX4_copies_1 : decode cX4_copies 1 = .ok (.istore_n 3, 1) := by decide +kernel
theorem dX4_copies_2 : decode cX4_copies 2 = .ok (.iload_n 3, 1) := by decide +kernel
theorem dX4_copies_3 : decode cX4_copies 3 = .ok (.bipush 122, 2) := by decide +kernel
theorem dX4_copies_5 : decode cX4_copies 5 = .ok (.if_icmp .ge 31, 3) := by decide +kernel
theorem dX4_copies_8 : decode cX4_copies 8 = .ok (.aload_n 0, 1) := by decide +kernel
theorem dX4_copies_9 : decode cX4_copies 9 = .ok (.getfield 7, 3) := by decide +kernel
theorem dX4_copies_12 : decode cX4_copies 12 = .ok (.bipush 122, 2) := by decide +kernel
theorem dX4_copies_14 : decode cX4_copies 14 = .ok (.iload_n 2, 1) := by decide +kernel
theorem dX4_copies_15 : decode cX4_copies 15 = .ok (.imul, 1) := by decide +kernel
theorem dX4_copies_16 : decode cX4_copies 16 = .ok (.iload_n 3, 1) := by decide +kernel
theorem dX4_copies_17 : decode cX4_copies 17 = .ok (.iadd, 1) := by decide +kernel
theorem dX4_copies_18 : decode cX4_copies 18 = .ok (.aload_n 0, 1) := by decide +kernel
theorem dX4_copies_19 : decode cX4_copies 19 = .ok (.getfield 7, 3) := by decide +kernel
theorem dX4_copies_22 : decode cX4_copies 22 = .ok (.bipush 122, 2) := by decide +kernel
theorem dX4_copies_24 : decode cX4_copies 24 = .ok (.iload_n 1, 1) := by decide +kernel
theorem dX4_copies_25 : decode cX4_copies 25 = .ok (.imul, 1) := by decide +kernel
theorem dX4_copies_26 : decode cX4_copies 26 = .ok (.iload_n 3, 1) := by decide +kernel
theorem dX4_copies_27 : decode cX4_copies 27 = .ok (.iadd, 1) := by decide +kernel
theorem dX4_copies_28 : decode cX4_copies 28 = .ok (.iaload, 1) := by decide +kernel
theorem dX4_copies_29 : decode cX4_copies 29 = .ok (.iastore, 1) := by decide +kernel
theorem dX4_copies_30 : decode cX4_copies 30 = .ok (.iinc 3 1, 3) := by decide +kernel
theorem dX4_copies_33 : decode cX4_copies 33 = .ok (.goto (-31), 3) := by decide +kernel
theorem dX4_copies_36 : decode cX4_copies 36 = .ok (.return_, 1) := by decide +kernel
theorem dX4_save_0 : decode cX4_save 0 = .ok (.iconst 1, 1) := by decide +kernel
theorem dX4_save_1 : decode cX4_save 1 = .ok (.istore_n 1, 1) := by decide +kernel
theorem dX4_save_2 : decode cX4_save 2 = .ok (.iload_n 1, 1) := by decide +kernel
theorem dX4_save_3 : decode cX4_save 3 = .ok (.bipush 6, 2) := by decide +kernel
theorem dX4_save_5 : decode cX4_save 5 = .ok (.if_icmp .ge 26, 3) := by decide +kernel
theorem dX4_save_8 : decode cX4_save 8 = .ok (.aload_n 0, 1) := by decide +kernel
theorem dX4_save_9 : decode cX4_save 9 = .ok (.getfield 73, 3) := by decide +kernel
theorem dX4_save_12 : decode cX4_save 12 = .ok (.bipush 6, 2) := by decide +kernel
theorem dX4_save_14 : decode cX4_save 14 = .ok (.if_icmp .ne 17, 3) := by decide +kernel
theorem dX4_save_17 : decode cX4_save 17 = .ok (.aload_n 0, 1) := by decide +kernel
theorem dX4_save_18 : decode cX4_save 18 = .ok (.iload_n 1, 1) := by decide +kernel
theorem dX4_save_19 : decode cX4_save 19 = .ok (.iconst 1, 1) := by decide +kernel
theorem dX4_save_20 : decode cX4_save 20 = .ok (.iadd, 1) := by decide +kernel
theorem dX4_save_21 : decode cX4_save 21 = .ok (.iload_n 1, 1) := by decide +kernel
theorem dX4_save_22 : decode cX4_save 22 = .ok (.invokevirtual 76, 3) := by decide +kernel
theorem dX4_save_25 : decode cX4_save 25 = .ok (.iinc 1 1, 3) := by decide +kernel
theorem dX4_save_28 : decode cX4_save 28 = .ok (.goto (-26), 3) := by decide +kernel
theorem dX4_save_31 : decode cX4_save 31 = .ok (.aload_n 0, 1) := by decide +kernel
theorem dX4_save_32 : decode cX4_save 32 = .ok (.dup, 1) := by decide +kernel
theorem dX4_save_33 : decode cX4_save 33 = .ok (.getfield 73, 3) := by decide +kernel
theorem dX4_save_36 : decode cX4_save 36 = .ok (.aload_n 0, 1) := by decide +kernel
theorem dX4_save_37 : decode cX4_save 37 = .ok (.getfield 73, 3) := by decide +kernel
theorem dX4_save_40 : decode cX4_save 40 = .ok (.bipush 6, 2) := by decide +kernel
theorem dX4_save_42 : decode cX4_save 42 = .ok (.if_icmp .ge 7, 3) := by decide +kernel
theorem dX4_save_45 : decode cX4_save 45 = .ok (.iconst 1, 1) := by decide +kernel
theorem dX4_save_46 : decode cX4_save 46 = .ok (.goto 4, 3) := by decide +kernel
theorem dX4_save_49 : decode cX4_save 49 = .ok (.iconst 0, 1) := by decide +kernel
theorem dX4_save_50 : decode cX4_save 50 = .ok (.iadd, 1) := by decide +kernel
theorem dX4_save_51 : decode cX4_save 51 = .ok (.putfield 73, 3) := by decide +kernel
theorem dX4_save_54 : decode cX4_save 54 = .ok (.aload_n 0, 1) := by decide +kernel
theorem dX4_save_55 : decode cX4_save 55 = .ok (.iconst 0, 1) := by decide +kernel
theorem dX4_save_56 : decode cX4_save 56 = .ok (.aload_n 0, 1) := by decide +kernel
theorem dX4_save_57 : decode cX4_save 57 = .ok (.getfield 73, 3) := by decide +kernel
theorem dX4_save_60 : decode cX4_save 60 = .ok (.invokevirtual 76, 3) := by decide +kernel
theorem dX4_save_63 : decode cX4_save 63 = .ok (.return_, 1) := by decide +kernel
theorem dX4_changed_0 : decode cX4_changed 0 = .ok (.aload_n 0, 1) := by decide +kernel
theorem dX4_changed_1 : decode cX4_changed 1 = .ok (.invokevirtual 80, 3) := by decide +kernel
theorem dX4_changed_4 : decode cX4_changed 4 = .ok (.aload_n 0, 1) := by decide +kernel
theorem dX4_changed_5 : decode cX4_changed 5 = .ok (.getfield 7, 3) := by decide +kernel
theorem dX4_changed_8 : decode cX4_changed 8 = .ok (.iload_n 1, 1) := by decide +kernel
theorem dX4_changed_9 : decode cX4_changed 9 = .ok (.iaload, 1) := by decide +kernel
theorem dX4_changed_10 : decode cX4_changed 10 = .ok (.istore_n 3, 1) := by decide +kernel
theorem dX4_changed_11 : decode cX4_changed 11 = .ok (.aload_n 0, 1) := by decide +kernel
theorem dX4_changed_12 : decode cX4_changed 12 = .ok (.getfield 7, 3) := by decide +kernel
theorem dX4_changed_15 : decode cX4_changed 15 = .ok (.iload_n 1, 1) := by decide +kernel
theorem dX4_changed_16 : decode cX4_changed 16 = .ok (.iload_n 2, 1) := by decide +kernel
theorem dX4_changed_17 : decode cX4_changed 17 = .ok (.iastore, 1) := by decide +kernel
theorem dX4_changed_18 : decode cX4_changed 18 = .ok (.iload_n 3, 1) := by decide +kernel
theorem dX4_changed_19 : decode cX4_changed 19 = .ok (.ireturn, 1) := by decide +kernel
theorem dX4_setOpen_0 : decode cX4_setOpen 0 = .ok (.aload_n 0, 1) := by decide +kernel
theorem dX4_setOpen_1 : decode cX4_setOpen 1 = .ok (.iload_n 1, 1) := by decide +kernel
theorem dX4_setOpen_2 : decode cX4_setOpen 2 = .ok (.invokestatic 83, 3) := by decide +kernel
theorem dX4_setOpen_5 : decode cX4_setOpen 5 = .ok (.ifCond .eq 7, 3) := by decide +kernel
theorem dX4_setOpen_8 : decode cX4_setOpen 8 = .ok (.iconst 0, 1) := by decide +kernel
theorem dX4_setOpen_9 : decode cX4_setOpen 9 = .ok (.goto 4, 3) := by decide +kernel
theorem dX4_setOpen_12 : decode cX4_setOpen 12 = .ok (.iconst 1, 1) := by decide +kernel
theorem dX4_setOpen_13 : decode cX4_setOpen 13 = .ok (.invokevirtual 86, 3) := by decide +kernel
theorem dX4_setOpen_16 : decode cX4_setOpen 16 = .ok (.ifCond .eq 28, 3) := by decide +kernel
theorem dX4_setOpen_19 : decode cX4_setOpen 19 = .ok (.aload_n 0, 1) := by decide +kernel
theorem dX4_setOpen_20 : decode cX4_setOpen 20 = .ok (.bipush 8, 2) := by decide +kernel
theorem dX4_setOpen_22 : decode cX4_setOpen 22 = .ok (.iload_n 1, 1) := by decide +kernel
theorem dX4_setOpen_23 : decode cX4_setOpen 23 = .ok (.iadd, 1) := by decide +kernel
theorem dX4_setOpen_24 : decode cX4_setOpen 24 = .ok (.iload_n 2, 1) := by decide +kernel
theorem dX4_setOpen_25 : decode cX4_setOpen 25 = .ok (.ifCond .eq 7, 3) := by decide +kernel
theorem dX4_setOpen_28 : decode cX4_setOpen 28 = .ok (.iconst 1, 1) := by decide +kernel
theorem dX4_setOpen_29 : decode cX4_setOpen 29 = .ok (.goto 4, 3) := by decide +kernel
theorem dX4_setOpen_32 : decode cX4_setOpen 32 = .ok (.iconst 0, 1) := by decide +kernel
theorem dX4_setOpen_33 : decode cX4_setOpen 33 = .ok (.invokevirtual 89, 3) := by decide +kernel
theorem dX4_setOpen_36 : decode cX4_setOpen 36 = .ok (.iconst 1, 1) := by decide +kernel
theorem dX4_setOpen_37 : decode cX4_setOpen 37 = .ok (.if_icmp .ne 7, 3) := by decide +kernel
theorem dX4_setOpen_40 : decode cX4_setOpen 40 = .ok (.iconst 1, 1) := by decide +kernel
theorem dX4_setOpen_41 : decode cX4_setOpen 41 = .ok (.goto 4, 3) := by decide +kernel
theorem dX4_setOpen_44 : decode cX4_setOpen 44 = .ok (.iconst 0, 1) := by decide +kernel
theorem dX4_setOpen_45 : decode cX4_setOpen 45 = .ok (.ireturn, 1) := by decide +kernel
theorem dX4_setKey_0 : decode cX4_setKey 0 = .ok (.aload_n 0, 1) := by decide +kernel
theorem dX4_setKey_1 : decode cX4_setKey 1 = .ok (.iload_n 1, 1) := by decide +kernel
theorem dX4_setKey_2 : decode cX4_setKey 2 = .ok (.invokestatic 83, 3) := by decide +kernel
theorem dX4_setKey_5 : decode cX4_setKey 5 = .ok (.ifCond .ne 7, 3) := by decide +kernel
theorem dX4_setKey_8 : decode cX4_setKey 8 = .ok (.iconst 1, 1) := by decide +kernel
theorem dX4_setKey_9 : decode cX4_setKey 9 = .ok (.goto 15, 3) := by decide +kernel
theorem dX4_setKey_12 : decode cX4_setKey 12 = .ok (.iload_n 2, 1) := by decide +kernel
theorem dX4_setKey_13 : decode cX4_setKey 13 = .ok (.invokestatic 92, 3) := by decide +kernel
theorem dX4_setKey_16 : decode cX4_setKey 16 = .ok (.ifCond .ne 7, 3) := by decide +kernel
theorem dX4_setKey_19 : decode cX4_setKey 19 = .ok (.iconst 2, 1) := by decide +kernel
theorem dX4_setKey_20 : decode cX4_setKey 20 = .ok (.goto 4, 3) := by decide +kernel
theorem dX4_setKey_23 : decode cX4_setKey 23 = .ok (.iconst 0, 1) := by decide +kernel
theorem dX4_setKey_24 : decode cX4_setKey 24 = .ok (.invokevirtual 86, 3) := by decide +kernel
theorem dX4_setKey_27 : decode cX4_setKey 27 = .ok (.ifCond .eq 15, 3) := by decide +kernel
theorem dX4_setKey_30 : decode cX4_setKey 30 = .ok (.aload_n 0, 1) := by decide +kernel
theorem dX4_setKey_31 : decode cX4_setKey 31 = .ok (.bipush 16, 2) := by decide +kernel
theorem dX4_setKey_33 : decode cX4_setKey 33 = .ok (.iload_n 1, 1) := by decide +kernel
theorem dX4_setKey_34 : decode cX4_setKey 34 = .ok (.iadd, 1) := by decide +kernel
theorem dX4_setKey_35 : decode cX4_setKey 35 = .ok (.iload_n 2, 1) := by decide +kernel
theorem dX4_setKey_36 : decode cX4_setKey 36 = .ok (.invokevirtual 89, 3) := by decide +kernel
theorem dX4_setKey_39 : decode cX4_setKey 39 = .ok (.goto 4, 3) := by decide +kernel
theorem dX4_setKey_42 : decode cX4_setKey 42 = .ok (.iconst 0, 1) := by decide +kernel
theorem dX4_setKey_43 : decode cX4_setKey 43 = .ok (.ireturn, 1) := by decide +kernel
theorem dX4_isOpen_0 : decode cX4_isOpen 0 = .ok (.aload_n 0, 1) := by decide +kernel
theorem dX4_isOpen_1 : decode cX4_isOpen 1 = .ok (.iload_n 1, 1) := by decide +kernel
theorem dX4_isOpen_2 : decode cX4_isOpen 2 = .ok (.invokestatic 83, 3) := by decide +kernel
theorem dX4_isOpen_5 : decode cX4_isOpen 5 = .ok (.ifCond .eq 7, 3) := by decide +kernel
theorem dX4_isOpen_8 : decode cX4_isOpen 8 = .ok (.iconst 0, 1) := by decide +kernel
theorem dX4_isOpen_9 : decode cX4_isOpen 9 = .ok (.goto 4, 3) := by decide +kernel
theorem dX4_isOpen_12 : decode cX4_isOpen 12 = .ok (.iconst 1, 1) := by decide +kernel
theorem dX4_isOpen_13 : decode cX4_isOpen 13 = .ok (.invokevirtual 86, 3) := by decide +kernel
theorem dX4_isOpen_16 : decode cX4_isOpen 16 = .ok (.ifCond .eq 15, 3) := by decide +kernel
theorem dX4_isOpen_19 : decode cX4_isOpen 19 = .ok (.aload_n 0, 1) := by decide +kernel
theorem dX4_isOpen_20 : decode cX4_isOpen 20 = .ok (.iload_n 1, 1) := by decide +kernel
theorem dX4_isOpen_21 : decode cX4_isOpen 21 = .ok (.invokevirtual 28, 3) := by decide +kernel
theorem dX4_isOpen_24 : decode cX4_isOpen 24 = .ok (.ifCond .eq 7, 3) := by decide +kernel
theorem dX4_isOpen_27 : decode cX4_isOpen 27 = .ok (.iconst 1, 1) := by decide +kernel
theorem dX4_isOpen_28 : decode cX4_isOpen 28 = .ok (.goto 4, 3) := by decide +kernel
theorem dX4_isOpen_31 : decode cX4_isOpen 31 = .ok (.iconst 0, 1) := by decide +kernel
theorem dX4_isOpen_32 : decode cX4_isOpen 32 = .ok (.ireturn, 1) := by decide +kernel
theorem dX4_key_0 : decode cX4_key 0 = .ok (.aload_n 0, 1) := by decide +kernel
theorem dX4_key_1 : decode cX4_key 1 = .ok (.iload_n 1, 1) := by decide +kernel
theorem dX4_key_2 : decode cX4_key 2 = .ok (.invokestatic 83, 3) := by decide +kernel
theorem dX4_key_5 : decode cX4_key 5 = .ok (.ifCond .eq 7, 3) := by decide +kernel
theorem dX4_key_8 : decode cX4_key 8 = .ok (.iconst 0, 1) := by decide +kernel
theorem dX4_key_9 : decode cX4_key 9 = .ok (.goto 4, 3) := by decide +kernel
theorem dX4_key_12 : decode cX4_key 12 = .ok (.iconst 1, 1) := by decide +kernel
theorem dX4_key_13 : decode cX4_key 13 = .ok (.invokevirtual 86, 3) := by decide +kernel
theorem dX4_key_16 : decode cX4_key 16 = .ok (.ifCond .eq 15, 3) := by decide +kernel
theorem dX4_key_19 : decode cX4_key 19 = .ok (.aload_n 0, 1) := by decide +kernel
theorem dX4_key_20 : decode cX4_key 20 = .ok (.getfield 7, 3) := by decide +kernel
theorem dX4_key_23 : decode cX4_key 23 = .ok (.bipush 16, 2) := by decide +kernel
theorem dX4_key_25 : decode cX4_key 25 = .ok (.iload_n 1, 1) := by decide +kernel
theorem dX4_key_26 : decode cX4_key 26 = .ok (.iadd, 1) := by decide +kernel
theorem dX4_key_27 : decode cX4_key 27 = .ok (.iaload, 1) := by decide +kernel
theorem dX4_key_28 : decode cX4_key 28 = .ok (.goto 4, 3) := by decide +kernel
theorem dX4_key_31 : decode cX4_key 31 = .ok (.iconst 0, 1) := by decide +kernel
theorem dX4_key_32 : decode cX4_key 32 = .ok (.ireturn, 1) := by decide +kernel
theorem dX4_cover_0 : decode cX4_cover 0 = .ok (.aload_n 0, 1) := by decide +kernel
theorem dX4_cover_1 : decode cX4_cover 1 = .ok (.iload_n 1, 1) := by decide +kernel
theorem dX4_cover_2 : decode cX4_cover 2 = .ok (.invokestatic 83, 3) := by decide +kernel
theorem dX4_cover_5 : decode cX4_cover 5 = .ok (.ifCond .ne 7, 3) := by decide +kernel
theorem dX4_cover_8 : decode cX4_cover 8 = .ok (.iconst 1, 1) := by decide +kernel
theorem dX4_cover_9 : decode cX4_cover 9 = .ok (.goto 15, 3) := by decide +kernel
theorem dX4_cover_12 : decode cX4_cover 12 = .ok (.iload_n 2, 1) := by decide +kernel
theorem dX4_cover_13 : decode cX4_cover 13 = .ok (.invokestatic 92, 3) := by decide +kernel
theorem dX4_cover_16 : decode cX4_cover 16 = .ok (.ifCond .ne 7, 3) := by decide +kernel
theorem dX4_cover_19 : decode cX4_cover 19 = .ok (.iconst 2, 1) := by decide +kernel
theorem dX4_cover_20 : decode cX4_cover 20 = .ok (.goto 4, 3) := by decide +kernel
theorem dX4_cover_23 : decode cX4_cover 23 = .ok (.iconst 0, 1) := by decide +kernel
theorem dX4_cover_24 : decode cX4_cover 24 = .ok (.invokevirtual 86, 3) := by decide +kernel
theorem dX4_cover_27 : decode cX4_cover 27 = .ok (.ifCond .eq 19, 3) := by decide +kernel
theorem dX4_cover_30 : decode cX4_cover 30 = .ok (.iload_n 2, 1) := by decide +kernel
theorem dX4_cover_31 : decode cX4_cover 31 = .ok (.aload_n 0, 1) := by decide +kernel
theorem dX4_cover_32 : decode cX4_cover 32 = .ok (.getfield 7, 3) := by decide +kernel
theorem dX4_cover_35 : decode cX4_cover 35 = .ok (.bipush 16, 2) := by decide +kernel
theorem dX4_cover_37 : decode cX4_cover 37 = .ok (.iload_n 1, 1) := by decide +kernel
theorem dX4_cover_38 : decode cX4_cover 38 = .ok (.iadd, 1) := by decide +kernel
theorem dX4_cover_39 : decode cX4_cover 39 = .ok (.iaload, 1) := by decide +kernel
theorem dX4_cover_40 : decode cX4_cover 40 = .ok (.invokestatic 39, 3) := by decide +kernel
theorem dX4_cover_43 : decode cX4_cover 43 = .ok (.goto 4, 3) := by decide +kernel
theorem dX4_cover_46 : decode cX4_cover 46 = .ok (.iconst 0, 1) := by decide +kernel
theorem dX4_cover_47 : decode cX4_cover 47 = .ok (.ireturn, 1) := by decide +kernel
theorem dX4_uncover_0 : decode cX4_uncover 0 = .ok (.aload_n 0, 1) := by decide +kernel
theorem dX4_uncover_1 : decode cX4_uncover 1 = .ok (.iload_n 1, 1) := by decide +kernel
theorem dX4_uncover_2 : decode cX4_uncover 2 = .ok (.invokestatic 83, 3) := by decide +kernel
theorem dX4_uncover_5 : decode cX4_uncover 5 = .ok (.ifCond .ne 7, 3) := by decide +kernel
theorem dX4_uncover_8 : decode cX4_uncover 8 = .ok (.iconst 1, 1) := by decide +kernel
theorem dX4_uncover_9 : decode cX4_uncover 9 = .ok (.goto 15, 3) := by decide +kernel
theorem dX4_uncover_12 : decode cX4_uncover 12 = .ok (.iload_n 2, 1) := by decide +kernel
theorem dX4_uncover_13 : decode cX4_uncover 13 = .ok (.invokestatic 92, 3) := by decide +kernel
theorem dX4_uncover_16 : decode cX4_uncover 16 = .ok (.ifCond .ne 7, 3) := by decide +kernel
theorem dX4_uncover_19 : decode cX4_uncover 19 = .ok (.iconst 2, 1) := by decide +kernel
theorem dX4_uncover_20 : decode cX4_uncover 20 = .ok (.goto 4, 3) := by decide +kernel
theorem dX4_uncover_23 : decode cX4_uncover 23 = .ok (.iconst 0, 1) := by decide +kernel
theorem dX4_uncover_24 : decode cX4_uncover 24 = .ok (.invokevirtual 86, 3) := by decide +kernel
theorem dX4_uncover_27 : decode cX4_uncover 27 = .ok (.ifCond .eq 19, 3) := by decide +kernel
theorem dX4_uncover_30 : decode cX4_uncover 30 = .ok (.iload_n 2, 1) := by decide +kernel
theorem dX4_uncover_31 : decode cX4_uncover 31 = .ok (.aload_n 0, 1) := by decide +kernel
theorem dX4_uncover_32 : decode cX4_uncover 32 = .ok (.getfield 7, 3) := by decide +kernel
theorem dX4_uncover_35 : decode cX4_uncover 35 = .ok (.bipush 16, 2) := by decide +kernel
theorem dX4_uncover_37 : decode cX4_uncover 37 = .ok (.iload_n 1, 1) := by decide +kernel
theorem dX4_uncover_38 : decode cX4_uncover 38 = .ok (.iadd, 1) := by decide +kernel
theorem dX4_uncover_39 : decode cX4_uncover 39 = .ok (.iaload, 1) := by decide +kernel
theorem dX4_uncover_40 : decode cX4_uncover 40 = .ok (.invokestatic 53, 3) := by decide +kernel
theorem dX4_uncover_43 : decode cX4_uncover 43 = .ok (.goto 4, 3) := by decide +kernel
theorem dX4_uncover_46 : decode cX4_uncover 46 = .ok (.iconst 0, 1) := by decide +kernel
theorem dX4_uncover_47 : decode cX4_uncover 47 = .ok (.ireturn, 1) := by decide +kernel
theorem dX4_lay_0 : decode cX4_lay 0 = .ok (.iload_n 1, 1) := by decide +kernel
theorem dX4_lay_1 : decode cX4_lay 1 = .ok (.invokestatic 83, 3) := by decide +kernel
theorem dX4_lay_4 : decode cX4_lay 4 = .ok (.ifCond .eq 29, 3) := by decide +kernel
theorem dX4_lay_7 : decode cX4_lay 7 = .ok (.iload_n 2, 1) := by decide +kernel
theorem dX4_lay_8 : decode cX4_lay 8 = .ok (.invokestatic 83, 3) := by decide +kernel
theorem dX4_lay_11 : decode cX4_lay 11 = .ok (.ifCond .eq 22, 3) := by decide +kernel
theorem dX4_lay_14 : decode cX4_lay 14 = .ok (.iload_n 3, 1) := by decide +kernel
theorem dX4_lay_15 : decode cX4_lay 15 = .ok (.invokestatic 83, 3) := by decide +kernel
theorem dX4_lay_18 : decode cX4_lay 18 = .ok (.ifCond .eq 15, 3) := by decide +kernel
theorem dX4_lay_21 : decode cX4_lay 21 = .ok (.iload 4, 2) := by decide +kernel
theorem dX4_lay_23 : decode cX4_lay 23 = .ok (.invokestatic 95, 3) := by decide +kernel
theorem dX4_lay_26 : decode cX4_lay 26 = .ok (.ifCond .eq 7, 3) := by decide +kernel
theorem dX4_lay_29 : decode cX4_lay 29 = .ok (.iconst 1, 1) := by decide +kernel
theorem dX4_lay_30 : decode cX4_lay 30 = .ok (.goto 4, 3) := by decide +kernel
theorem dX4_lay_33 : decode cX4_lay 33 = .ok (.iconst 0, 1) := by decide +kernel
theorem dX4_lay_34 : decode cX4_lay 34 = .ok (.istore 5, 2) := by decide +kernel
theorem dX4_lay_36 : decode cX4_lay 36 = .ok (.iload_n 1, 1) := by decide +kernel
theorem dX4_lay_37 : decode cX4_lay 37 = .ok (.iload_n 2, 1) := by decide +kernel
theorem dX4_lay_38 : decode cX4_lay 38 = .ok (.if_icmp .eq 13, 3) := by decide +kernel
theorem dX4_lay_41 : decode cX4_lay 41 = .ok (.iload_n 2, 1) := by decide +kernel
theorem dX4_lay_42 : decode cX4_lay 42 = .ok (.iload_n 3, 1) := by decide +kernel
theorem dX4_lay_43 : decode cX4_lay 43 = .ok (.if_icmp .eq 8, 3) := by decide +kernel
theorem dX4_lay_46 : decode cX4_lay 46 = .ok (.iload_n 1, 1) := by decide +kernel
theorem dX4_lay_47 : decode cX4_lay 47 = .ok (.iload_n 3, 1) := by decide +kernel
theorem dX4_lay_48 : decode cX4_lay 48 = .ok (.if_icmp .ne 7, 3) := by decide +kernel
theorem dX4_lay_51 : decode cX4_lay 51 = .ok (.iconst 1, 1) := by decide +kernel
theorem dX4_lay_52 : decode cX4_lay 52 = .ok (.goto 4, 3) := by decide +kernel
theorem dX4_lay_55 : decode cX4_lay 55 = .ok (.iconst 0, 1) := by decide +kernel
theorem dX4_lay_56 : decode cX4_lay 56 = .ok (.istore 6, 2) := by decide +kernel
theorem dX4_lay_58 : decode cX4_lay 58 = .ok (.aload_n 0, 1) := by decide +kernel
theorem dX4_lay_59 : decode cX4_lay 59 = .ok (.iload 5, 2) := by decide +kernel
theorem dX4_lay_61 : decode cX4_lay 61 = .ok (.ifCond .ne 7, 3) := by decide +kernel
theorem dX4_lay_64 : decode cX4_lay 64 = .ok (.iconst 1, 1) := by decide +kernel
theorem dX4_lay_65 : decode cX4_lay 65 = .ok (.goto 27, 3) := by decide +kernel
theorem dX4_lay_68 : decode cX4_lay 68 = .ok (.iload 6, 2) := by decide +kernel
theorem dX4_lay_70 : decode cX4_lay 70 = .ok (.ifCond .eq 7, 3) := by decide +kernel
theorem dX4_lay_73 : decode cX4_lay 73 = .ok (.iconst 2, 1) := by decide +kernel
theorem dX4_lay_74 : decode cX4_lay 74 = .ok (.goto 18, 3) := by decide +kernel
theorem dX4_lay_77 : decode cX4_lay 77 = .ok (.aload_n 0, 1) := by decide +kernel
theorem dX4_lay_78 : decode cX4_lay 78 = .ok (.iload_n 1, 1) := by decide +kernel
theorem dX4_lay_79 : decode cX4_lay 79 = .ok (.iload_n 2, 1) := by decide +kernel
theorem dX4_lay_80 : decode cX4_lay 80 = .ok (.iload_n 3, 1) := by decide +kernel
theorem dX4_lay_81 : decode cX4_lay 81 = .ok (.invokevirtual 98, 3) := by decide +kernel
theorem dX4_lay_84 : decode cX4_lay 84 = .ok (.ifCond .ne 7, 3) := by decide +kernel
theorem dX4_lay_87 : decode cX4_lay 87 = .ok (.iconst 3, 1) := by decide +kernel
theorem dX4_lay_88 : decode cX4_lay 88 = .ok (.goto 4, 3) := by decide +kernel
theorem dX4_lay_91 : decode cX4_lay 91 = .ok (.iconst 0, 1) := by decide +kernel
theorem dX4_lay_92 : decode cX4_lay 92 = .ok (.invokevirtual 86, 3) := by decide +kernel
theorem dX4_lay_95 : decode cX4_lay 95 = .ok (.ifCond .ne 5, 3) := by decide +kernel
theorem dX4_lay_98 : decode cX4_lay 98 = .ok (.iconst 0, 1) := by decide +kernel
theorem dX4_lay_99 : decode cX4_lay 99 = .ok (.ireturn, 1) := by decide +kernel
theorem dX4_lay_100 : decode cX4_lay 100 = .ok (.aload_n 0, 1) := by decide +kernel
theorem dX4_lay_101 : decode cX4_lay 101 = .ok (.invokevirtual 80, 3) := by decide +kernel
theorem dX4_lay_104 : decode cX4_lay 104 = .ok (.aload_n 0, 1) := by decide +kernel
theorem dX4_lay_105 : decode cX4_lay 105 = .ok (.iload_n 1, 1) := by decide +kernel
theorem dX4_lay_106 : decode cX4_lay 106 = .ok (.iload_n 2, 1) := by decide +kernel
theorem dX4_lay_107 : decode cX4_lay 107 = .ok (.iload_n 3, 1) := by decide +kernel
theorem dX4_lay_108 : decode cX4_lay 108 = .ok (.iload 4, 2) := by decide +kernel
theorem dX4_lay_110 : decode cX4_lay 110 = .ok (.invokevirtual 101, 3) := by decide +kernel
theorem dX4_lay_113 : decode cX4_lay 113 = .ok (.ireturn, 1) := by decide +kernel
theorem dX4_takeUp_0 : decode cX4_takeUp 0 = .ok (.aload_n 0, 1) := by decide +kernel
theorem dX4_takeUp_1 : decode cX4_takeUp 1 = .ok (.aload_n 0, 1) := by decide +kernel
theorem dX4_takeUp_2 : decode cX4_takeUp 2 = .ok (.invokevirtual 104, 3) := by decide +kernel
theorem dX4_takeUp_5 : decode cX4_takeUp 5 = .ok (.ifCond .eq 7, 3) := by decide +kernel
theorem dX4_takeUp_8 : decode cX4_takeUp 8 = .ok (.iconst 0, 1) := by decide +kernel
theorem dX4_takeUp_9 : decode cX4_takeUp 9 = .ok (.goto 4, 3) := by decide +kernel
theorem dX4_takeUp_12 : decode cX4_takeUp 12 = .ok (.iconst 1, 1) := by decide +kernel
theorem dX4_takeUp_13 : decode cX4_takeUp 13 = .ok (.invokevirtual 86, 3) := by decide +kernel
theorem dX4_takeUp_16 : decode cX4_takeUp 16 = .ok (.ifCond .ne 5, 3) := by decide +kernel
theorem dX4_takeUp_19 : decode cX4_takeUp 19 = .ok (.iconst 0, 1) := by decide +kernel
theorem dX4_takeUp_20 : decode cX4_takeUp 20 = .ok (.ireturn, 1) := by decide +kernel
theorem dX4_takeUp_21 : decode cX4_takeUp 21 = .ok (.aload_n 0, 1) := by decide +kernel
theorem dX4_takeUp_22 : decode cX4_takeUp 22 = .ok (.invokevirtual 80, 3) := by decide +kernel
theorem dX4_takeUp_25 : decode cX4_takeUp 25 = .ok (.aload_n 0, 1) := by decide +kernel
theorem dX4_takeUp_26 : decode cX4_takeUp 26 = .ok (.getfield 7, 3) := by decide +kernel
theorem dX4_takeUp_29 : decode cX4_takeUp 29 = .ok (.iconst 0, 1) := by decide +kernel
theorem dX4_takeUp_30 : decode cX4_takeUp 30 = .ok (.dup2, 1) := by decide +kernel
theorem dX4_takeUp_31 : decode cX4_takeUp 31 = .ok (.iaload, 1) := by decide +kernel
theorem dX4_takeUp_32 : decode cX4_takeUp 32 = .ok (.iconst 1, 1) := by decide +kernel
theorem dX4_takeUp_33 : decode cX4_takeUp 33 = .ok (.isub, 1) := by decide +kernel
theorem dX4_takeUp_34 : decode cX4_takeUp 34 = .ok (.iastore, 1) := by decide +kernel
theorem dX4_takeUp_35 : decode cX4_takeUp 35 = .ok (.iconst 0, 1) := by decide +kernel
theorem dX4_takeUp_36 : decode cX4_takeUp 36 = .ok (.istore_n 1, 1) := by decide +kernel
theorem dX4_takeUp_37 : decode cX4_takeUp 37 = .ok (.iload_n 1, 1) := by decide +kernel
theorem dX4_takeUp_38 : decode cX4_takeUp 38 = .ok (.iconst 4, 1) := by decide +kernel
theorem dX4_takeUp_39 : decode cX4_takeUp 39 = .ok (.if_icmp .ge 49, 3) := by decide +kernel
theorem dX4_takeUp_42 : decode cX4_takeUp 42 = .ok (.aload_n 0, 1) := by decide +kernel
theorem dX4_takeUp_43 : decode cX4_takeUp 43 = .ok (.getfield 7, 3) := by decide +kernel
theorem dX4_takeUp_46 : decode cX4_takeUp 46 = .ok (.bipush 118, 2) := by decide +kernel
theorem dX4_takeUp_48 : decode cX4_takeUp 48 = .ok (.iload_n 1, 1) := by decide +kernel
theorem dX4_takeUp_49 : decode cX4_takeUp 49 = .ok (.iadd, 1) := by decide +kernel
theorem dX4_takeUp_50 : decode cX4_takeUp 50 = .ok (.aload_n 0, 1) := by decide +kernel
theorem dX4_takeUp_51 : decode cX4_takeUp 51 = .ok (.getfield 7, 3) := by decide +kernel
theorem dX4_takeUp_54 : decode cX4_takeUp 54 = .ok (.bipush 118, 2) := by decide +kernel
theorem dX4_takeUp_56 : decode cX4_takeUp 56 = .ok (.iload_n 1, 1) := by decide +kernel
theorem dX4_takeUp_57 : decode cX4_takeUp 57 = .ok (.iadd, 1) := by decide +kernel
theorem dX4_takeUp_58 : decode cX4_takeUp 58 = .ok (.iaload, 1) := by decide +kernel
theorem dX4_takeUp_59 : decode cX4_takeUp 59 = .ok (.aload_n 0, 1) := by decide +kernel
theorem dX4_takeUp_60 : decode cX4_takeUp 60 = .ok (.getfield 7, 3) := by decide +kernel
theorem dX4_takeUp_63 : decode cX4_takeUp 63 = .ok (.iconst 0, 1) := by decide +kernel
theorem dX4_takeUp_64 : decode cX4_takeUp 64 = .ok (.iaload, 1) := by decide +kernel
theorem dX4_takeUp_65 : decode cX4_takeUp 65 = .ok (.if_icmp .ne 7, 3) := by decide +kernel
theorem dX4_takeUp_68 : decode cX4_takeUp 68 = .ok (.iconst (-1), 1) := by decide +kernel
theorem dX4_takeUp_69 : decode cX4_takeUp 69 = .ok (.goto 12, 3) := by decide +kernel
theorem dX4_takeUp_72 : decode cX4_takeUp 72 = .ok (.aload_n 0, 1) := by decide +kernel
theorem dX4_takeUp_73 : decode cX4_takeUp 73 = .ok (.getfield 7, 3) := by decide +kernel
theorem dX4_takeUp_76 : decode cX4_takeUp 76 = .ok (.bipush 118, 2) := by decide +kernel
theorem dX4_takeUp_78 : decode cX4_takeUp 78 = .ok (.iload_n 1, 1) := by decide +kernel
theorem dX4_takeUp_79 : decode cX4_takeUp 79 = .ok (.iadd, 1) := by decide +kernel
theorem dX4_takeUp_80 : decode cX4_takeUp 80 = .ok (.iaload, 1) := by decide +kernel
theorem dX4_takeUp_81 : decode cX4_takeUp 81 = .ok (.iastore, 1) := by decide +kernel
theorem dX4_takeUp_82 : decode cX4_takeUp 82 = .ok (.iinc 1 1, 3) := by decide +kernel
theorem dX4_takeUp_85 : decode cX4_takeUp 85 = .ok (.goto (-48), 3) := by decide +kernel
theorem dX4_takeUp_88 : decode cX4_takeUp 88 = .ok (.aload_n 0, 1) := by decide +kernel
theorem dX4_takeUp_89 : decode cX4_takeUp 89 = .ok (.getfield 7, 3) := by decide +kernel
theorem dX4_takeUp_92 : decode cX4_takeUp 92 = .ok (.iconst 0, 1) := by decide +kernel
theorem dX4_takeUp_93 : decode cX4_takeUp 93 = .ok (.iaload, 1) := by decide +kernel
theorem dX4_takeUp_94 : decode cX4_takeUp 94 = .ok (.ireturn, 1) := by decide +kernel
theorem dX4_roads_0 : decode cX4_roads 0 = .ok (.aload_n 0, 1) := by decide +kernel
theorem dX4_roads_1 : decode cX4_roads 1 = .ok (.aload_n 0, 1) := by decide +kernel
theorem dX4_roads_2 : decode cX4_roads 2 = .ok (.getfield 7, 3) := by decide +kernel
theorem dX4_roads_5 : decode cX4_roads 5 = .ok (.iconst 0, 1) := by decide +kernel
theorem dX4_roads_6 : decode cX4_roads 6 = .ok (.iaload, 1) := by decide +kernel
theorem dX4_roads_7 : decode cX4_roads 7 = .ok (.invokevirtual 107, 3) := by decide +kernel
theorem dX4_roads_10 : decode cX4_roads 10 = .ok (.ireturn, 1) := by decide +kernel
theorem dX4_inn_0 : decode cX4_inn 0 = .ok (.aload_n 0, 1) := by decide +kernel
theorem dX4_inn_1 : decode cX4_inn 1 = .ok (.aload_n 0, 1) := by decide +kernel
theorem dX4_inn_2 : decode cX4_inn 2 = .ok (.iload_n 1, 1) := by decide +kernel
theorem dX4_inn_3 : decode cX4_inn 3 = .ok (.invokevirtual 110, 3) := by decide +kernel
theorem dX4_inn_6 : decode cX4_inn 6 = .ok (.ifCond .eq 16, 3) := by decide +kernel
theorem dX4_inn_9 : decode cX4_inn 9 = .ok (.iload_n 2, 1) := by decide +kernel
theorem dX4_inn_10 : decode cX4_inn 10 = .ok (.iconst 1, 1) := by decide +kernel
theorem dX4_inn_11 : decode cX4_inn 11 = .ok (.iconst 3, 1) := by decide +kernel
theorem dX4_inn_12 : decode cX4_inn 12 = .ok (.invokestatic 20, 3) := by decide +kernel
theorem dX4_inn_15 : decode cX4_inn 15 = .ok (.ifCond .eq 7, 3) := by decide +kernel
theorem dX4_inn_18 : decode cX4_inn 18 = .ok (.iconst 0, 1) := by decide +kernel
theorem dX4_inn_19 : decode cX4_inn 19 = .ok (.goto 4, 3) := by decide +kernel
theorem dX4_inn_22 : decode cX4_inn 22 = .ok (.iconst 1, 1) := by decide +kernel
theorem dX4_inn_23 : decode cX4_inn 23 = .ok (.invokevirtual 86, 3) := by decide +kernel
theorem dX4_inn_26 : decode cX4_inn 26 = .ok (.ifCond .eq 12, 3) := by decide +kernel
theorem dX4_inn_29 : decode cX4_inn 29 = .ok (.aload_n 0, 1) := by decide +kernel
theorem dX4_inn_30 : decode cX4_inn 30 = .ok (.iload_n 1, 1) := by decide +kernel
theorem dX4_inn_31 : decode cX4_inn 31 = .ok (.iload_n 2, 1) := by decide +kernel
theorem dX4_inn_32 : decode cX4_inn 32 = .ok (.invokevirtual 24, 3) := by decide +kernel
theorem dX4_inn_35 : decode cX4_inn 35 = .ok (.goto 4, 3) := by decide +kernel
theorem dX4_inn_38 : decode cX4_inn 38 = .ok (.iconst 0, 1) := by decide +kernel
theorem dX4_inn_39 : decode cX4_inn 39 = .ok (.ireturn, 1) := by decide +kernel
theorem dX4_hall_0 : decode cX4_hall 0 = .ok (.aload_n 0, 1) := by decide +kernel
theorem dX4_hall_1 : decode cX4_hall 1 = .ok (.aload_n 0, 1) := by decide +kernel
theorem dX4_hall_2 : decode cX4_hall 2 = .ok (.iload_n 1, 1) := by decide +kernel
theorem dX4_hall_3 : decode cX4_hall 3 = .ok (.invokevirtual 110, 3) := by decide +kernel
theorem dX4_hall_6 : decode cX4_hall 6 = .ok (.ifCond .eq 7, 3) := by decide +kernel
theorem dX4_hall_9 : decode cX4_hall 9 = .ok (.iconst 0, 1) := by decide +kernel
theorem dX4_hall_10 : decode cX4_hall 10 = .ok (.goto 4, 3) := by decide +kernel
theorem dX4_hall_13 : decode cX4_hall 13 = .ok (.iconst 1, 1) := by decide +kernel
theorem dX4_hall_14 : decode cX4_hall 14 = .ok (.invokevirtual 86, 3) := by decide +kernel
theorem dX4_hall_17 : decode cX4_hall 17 = .ok (.ifCond .eq 11, 3) := by decide +kernel
theorem dX4_hall_20 : decode cX4_hall 20 = .ok (.aload_n 0, 1) := by decide +kernel
theorem dX4_hall_21 : decode cX4_hall 21 = .ok (.iload_n 1, 1) := by decide +kernel
theorem dX4_hall_22 : decode cX4_hall 22 = .ok (.invokevirtual 49, 3) := by decide +kernel
theorem dX4_hall_25 : decode cX4_hall 25 = .ok (.goto 4, 3) := by decide +kernel
theorem dX4_hall_28 : decode cX4_hall 28 = .ok (.iconst 0, 1) := by decide +kernel
theorem dX4_hall_29 : decode cX4_hall 29 = .ok (.ireturn, 1) := by decide +kernel
theorem dX4_stands_0 : decode cX4_stands 0 = .ok (.aload_n 0, 1) := by decide +kernel
theorem dX4_stands_1 : decode cX4_stands 1 = .ok (.aload_n 0, 1) := by decide +kernel
theorem dX4_stands_2 : decode cX4_stands 2 = .ok (.iload_n 1, 1) := by decide +kernel
theorem dX4_stands_3 : decode cX4_stands 3 = .ok (.invokevirtual 110, 3) := by decide +kernel
theorem dX4_stands_6 : decode cX4_stands 6 = .ok (.ifCond .eq 7, 3) := by decide +kernel
theorem dX4_stands_9 : decode cX4_stands 9 = .ok (.iconst 0, 1) := by decide +kernel
theorem dX4_stands_10 : decode cX4_stands 10 = .ok (.goto 4, 3) := by decide +kernel
theorem dX4_stands_13 : decode cX4_stands 13 = .ok (.iconst 1, 1) := by decide +kernel
theorem dX4_stands_14 : decode cX4_stands 14 = .ok (.invokevirtual 86, 3) := by decide +kernel
theorem dX4_stands_17 : decode cX4_stands 17 = .ok (.ifCond .eq 15, 3) := by decide +kernel
theorem dX4_stands_20 : decode cX4_stands 20 = .ok (.aload_n 0, 1) := by decide +kernel
theorem dX4_stands_21 : decode cX4_stands 21 = .ok (.iload_n 1, 1) := by decide +kernel
theorem dX4_stands_22 : decode cX4_stands 22 = .ok (.invokevirtual 113, 3) := by decide +kernel
theorem dX4_stands_25 : decode cX4_stands 25 = .ok (.ifCond .eq 7, 3) := by decide +kernel
theorem dX4_stands_28 : decode cX4_stands 28 = .ok (.iconst 1, 1) := by decide +kernel
theorem dX4_stands_29 : decode cX4_stands 29 = .ok (.goto 4, 3) := by decide +kernel
theorem dX4_stands_32 : decode cX4_stands 32 = .ok (.iconst 0, 1) := by decide +kernel
theorem dX4_stands_33 : decode cX4_stands 33 = .ok (.ireturn, 1) := by decide +kernel
theorem dX4_seen_0 : decode cX4_seen 0 = .ok (.aload_n 0, 1) := by decide +kernel
theorem dX4_seen_1 : decode cX4_seen 1 = .ok (.iload_n 1, 1) := by decide +kernel
theorem dX4_seen_2 : decode cX4_seen 2 = .ok (.iload_n 2, 1) := by decide +kernel
theorem dX4_seen_3 : decode cX4_seen 3 = .ok (.invokevirtual 116, 3) := by decide +kernel
theorem dX4_seen_6 : decode cX4_seen 6 = .ok (.istore 4, 2) := by decide +kernel
theorem dX4_seen_8 : decode cX4_seen 8 = .ok (.iload 4, 2) := by decide +kernel
theorem dX4_seen_10 : decode cX4_seen 10 = .ok (.ifCond .ne 5, 3) := by decide +kernel
theorem dX4_seen_13 : decode cX4_seen 13 = .ok (.iconst (-1), 1) := by decide +kernel
theorem dX4_seen_14 : decode cX4_seen 14 = .ok (.ireturn, 1) := by decide +kernel
theorem dX4_seen_15 : decode cX4_seen 15 = .ok (.iload_n 3, 1) := by decide +kernel
theorem dX4_seen_16 : decode cX4_seen 16 = .ok (.ifCond .ne 10, 3) := by decide +kernel
theorem dX4_seen_19 : decode cX4_seen 19 = .ok (.iload 4, 2) := by decide +kernel
theorem dX4_seen_21 : decode cX4_seen 21 = .ok (.iconst 1, 1) := by decide +kernel
theorem dX4_seen_22 : decode cX4_seen 22 = .ok (.isub, 1) := by decide +kernel
theorem dX4_seen_23 : decode cX4_seen 23 = .ok (.goto 7, 3) := by decide +kernel
theorem dX4_seen_26 : decode cX4_seen 26 = .ok (.iload 4, 2) := by decide +kernel
theorem dX4_seen_28 : decode cX4_seen 28 = .ok (.iconst 1, 1) := by decide +kernel
theorem dX4_seen_29 : decode cX4_seen 29 = .ok (.iadd, 1) := by decide +kernel
theorem dX4_seen_30 : decode cX4_seen 30 = .ok (.istore 5, 2) := by decide +kernel
theorem dX4_seen_32 : decode cX4_seen 32 = .ok (.iload 5, 2) := by decide +kernel
theorem dX4_seen_34 : decode cX4_seen 34 = .ok (.ifCond .ne 8, 3) := by decide +kernel
theorem dX4_seen_37 : decode cX4_seen 37 = .ok (.bipush 8, 2) := by decide +kernel
theorem dX4_seen_39 : decode cX4_seen 39 = .ok (.goto 27, 3) := by decide +kernel
theorem dX4_seen_42 : decode cX4_seen 42 = .ok (.iload 5, 2) := by decide +kernel
theorem dX4_seen_44 : decode cX4_seen 44 = .ok (.iconst 4, 1) := by decide +kernel
theorem dX4_seen_45 : decode cX4_seen 45 = .ok (.if_icmp .ne 14, 3) := by decide +kernel
theorem dX4_seen_48 : decode cX4_seen 48 = .ok (.bipush 10, 2) := by decide +kernel
theorem dX4_seen_50 : decode cX4_seen 50 = .ok (.aload_n 0, 1) := by decide +kernel
theorem dX4_seen_51 : decode cX4_seen 51 = .ok (.iload_n 2, 1) := by decide +kernel
theorem dX4_seen_52 : decode cX4_seen 52 = .ok (.invokevirtual 49, 3) := by decide +kernel
theorem dX4_seen_55 : decode cX4_seen 55 = .ok (.iadd, 1) := by decide +kernel
theorem dX4_seen_56 : decode cX4_seen 56 = .ok (.goto 10, 3) := by decide +kernel
theorem dX4_seen_59 : decode cX4_seen 59 = .ok (.aload_n 0, 1) := by decide +kernel
theorem dX4_seen_60 : decode cX4_seen 60 = .ok (.iload_n 2, 1) := by decide +kernel
theorem dX4_seen_61 : decode cX4_seen 61 = .ok (.iload 5, 2) := by decide +kernel
theorem dX4_seen_63 : decode cX4_seen 63 = .ok (.invokevirtual 24, 3) := by decide +kernel
theorem dX4_seen_66 : decode cX4_seen 66 = .ok (.ireturn, 1) := by decide +kernel
theorem dX4_see_0 : decode cX4_see 0 = .ok (.aload_n 0, 1) := by decide +kernel
theorem dX4_see_1 : decode cX4_see 1 = .ok (.iload_n 1, 1) := by decide +kernel
theorem dX4_see_2 : decode cX4_see 2 = .ok (.invokestatic 83, 3) := by decide +kernel
theorem dX4_see_5 : decode cX4_see 5 = .ok (.ifCond .eq 24, 3) := by decide +kernel
theorem dX4_see_8 : decode cX4_see 8 = .ok (.aload_n 0, 1) := by decide +kernel
theorem dX4_see_9 : decode cX4_see 9 = .ok (.iload_n 2, 1) := by decide +kernel
theorem dX4_see_10 : decode cX4_see 10 = .ok (.invokevirtual 110, 3) := by decide +kernel
theorem dX4_see_13 : decode cX4_see 13 = .ok (.ifCond .eq 16, 3) := by decide +kernel
theorem dX4_see_16 : decode cX4_see 16 = .ok (.iload_n 3, 1) := by decide +kernel
theorem dX4_see_17 : decode cX4_see 17 = .ok (.iconst 0, 1) := by decide +kernel
theorem dX4_see_18 : decode cX4_see 18 = .ok (.iconst 1, 1) := by decide +kernel
theorem dX4_see_19 : decode cX4_see 19 = .ok (.invokestatic 20, 3) := by decide +kernel
theorem dX4_see_22 : decode cX4_see 22 = .ok (.ifCond .eq 7, 3) := by decide +kernel
theorem dX4_see_25 : decode cX4_see 25 = .ok (.iconst 0, 1) := by decide +kernel
theorem dX4_see_26 : decode cX4_see 26 = .ok (.goto 4, 3) := by decide +kernel
theorem dX4_see_29 : decode cX4_see 29 = .ok (.iconst 1, 1) := by decide +kernel
theorem dX4_see_30 : decode cX4_see 30 = .ok (.invokevirtual 86, 3) := by decide +kernel
theorem dX4_see_33 : decode cX4_see 33 = .ok (.ifCond .eq 13, 3) := by decide +kernel
theorem dX4_see_36 : decode cX4_see 36 = .ok (.aload_n 0, 1) := by decide +kernel
theorem dX4_see_37 : decode cX4_see 37 = .ok (.iload_n 1, 1) := by decide +kernel
theorem dX4_see_38 : decode cX4_see 38 = .ok (.iload_n 2, 1) := by decide +kernel
theorem dX4_see_39 : decode cX4_see 39 = .ok (.iload_n 3, 1) := by decide +kernel
theorem dX4_see_40 : decode cX4_see 40 = .ok (.invokevirtual 119, 3) := by decide +kernel
theorem dX4_see_43 : decode cX4_see 43 = .ok (.goto 4, 3) := by decide +kernel
theorem dX4_see_46 : decode cX4_see 46 = .ok (.iconst 0, 1) := by decide +kernel
theorem dX4_see_47 : decode cX4_see 47 = .ok (.ireturn, 1) := by decide +kernel
theorem dX4_knownTo_0 : decode cX4_knownTo 0 = .ok (.iconst 0, 1) := by decide +kernel
theorem dX4_knownTo_1 : decode cX4_knownTo 1 = .ok (.istore_n 2, 1) := by decide +kernel
theorem dX4_knownTo_2 : decode cX4_knownTo 2 = .ok (.iconst 0, 1) := by decide +kernel
theorem dX4_knownTo_3 : decode cX4_knownTo 3 = .ok (.istore_n 3, 1) := by decide +kernel
theorem dX4_knownTo_4 : decode cX4_knownTo 4 = .ok (.iload_n 3, 1) := by decide +kernel
theorem dX4_knownTo_5 : decode cX4_knownTo 5 = .ok (.iconst 2, 1) := by decide +kernel
theorem dX4_knownTo_6 : decode cX4_knownTo 6 = .ok (.aload_n 0, 1) := by decide +kernel
theorem dX4_knownTo_7 : decode cX4_knownTo 7 = .ok (.getfield 7, 3) := by decide +kernel
theorem dX4_knownTo_10 : decode cX4_knownTo 10 = .ok (.iconst 0, 1) := by decide +kernel
theorem dX4_knownTo_11 : decode cX4_knownTo 11 = .ok (.iaload, 1) := by decide +kernel
theorem dX4_knownTo_12 : decode cX4_knownTo 12 = .ok (.imul, 1) := by decide +kernel
theorem dX4_knownTo_13 : decode cX4_knownTo 13 = .ok (.if_icmp .ge 41, 3) := by decide +kernel
theorem dX4_knownTo_16 : decode cX4_knownTo 16 = .ok (.aload_n 0, 1) := by decide +kernel
theorem dX4_knownTo_17 : decode cX4_knownTo 17 = .ok (.iload_n 1, 1) := by decide +kernel
theorem dX4_knownTo_18 : decode cX4_knownTo 18 = .ok (.iload_n 3, 1) := by decide +kernel
theorem dX4_knownTo_19 : decode cX4_knownTo 19 = .ok (.iconst 2, 1) := by decide +kernel
theorem dX4_knownTo_20 : decode cX4_knownTo 20 = .ok (.idiv, 1) := by decide +kernel
theorem dX4_knownTo_21 : decode cX4_knownTo 21 = .ok (.iload_n 3, 1) := by decide +kernel
theorem dX4_knownTo_22 : decode cX4_knownTo 22 = .ok (.iconst 2, 1) := by decide +kernel
theorem dX4_knownTo_23 : decode cX4_knownTo 23 = .ok (.irem, 1) := by decide +kernel
theorem dX4_knownTo_24 : decode cX4_knownTo 24 = .ok (.invokevirtual 119, 3) := by decide +kernel
theorem dX4_knownTo_27 : decode cX4_knownTo 27 = .ok (.istore 4, 2) := by decide +kernel
theorem dX4_knownTo_29 : decode cX4_knownTo 29 = .ok (.iload_n 2, 1) := by decide +kernel
theorem dX4_knownTo_30 : decode cX4_knownTo 30 = .ok (.iload 4, 2) := by decide +kernel
theorem dX4_knownTo_32 : decode cX4_knownTo 32 = .ok (.invokestatic 83, 3) := by decide +kernel
theorem dX4_knownTo_35 : decode cX4_knownTo 35 = .ok (.ifCond .eq 10, 3) := by decide +kernel
theorem dX4_knownTo_38 : decode cX4_knownTo 38 = .ok (.iconst 1, 1) := by decide +kernel
theorem dX4_knownTo_39 : decode cX4_knownTo 39 = .ok (.iload 4, 2) := by decide +kernel
theorem dX4_knownTo_41 : decode cX4_knownTo 41 = .ok (.ishl, 1) := by decide +kernel
theorem dX4_knownTo_42 : decode cX4_knownTo 42 = .ok (.goto 4, 3) := by decide +kernel
theorem dX4_knownTo_45 : decode cX4_knownTo 45 = .ok (.iconst 0, 1) := by decide +kernel
theorem dX4_knownTo_46 : decode cX4_knownTo 46 = .ok (.ior, 1) := by decide +kernel
theorem dX4_knownTo_47 : decode cX4_knownTo 47 = .ok (.istore_n 2, 1) := by decide +kernel
theorem dX4_knownTo_48 : decode cX4_knownTo 48 = .ok (.iinc 3 1, 3) := by decide +kernel
theorem dX4_knownTo_51 : decode cX4_knownTo 51 = .ok (.goto (-47), 3) := by decide +kernel
theorem dX4_knownTo_54 : decode cX4_knownTo 54 = .ok (.iload_n 2, 1) := by decide +kernel
theorem dX4_knownTo_55 : decode cX4_knownTo 55 = .ok (.ireturn, 1) := by decide +kernel
theorem dX4_known_0 : decode cX4_known 0 = .ok (.aload_n 0, 1) := by decide +kernel
theorem dX4_known_1 : decode cX4_known 1 = .ok (.iload_n 1, 1) := by decide +kernel
theorem dX4_known_2 : decode cX4_known 2 = .ok (.invokestatic 83, 3) := by decide +kernel
theorem dX4_known_5 : decode cX4_known 5 = .ok (.ifCond .eq 7, 3) := by decide +kernel
theorem dX4_known_8 : decode cX4_known 8 = .ok (.iconst 0, 1) := by decide +kernel
theorem dX4_known_9 : decode cX4_known 9 = .ok (.goto 4, 3) := by decide +kernel
theorem dX4_known_12 : decode cX4_known 12 = .ok (.iconst 1, 1) := by decide +kernel
theorem dX4_known_13 : decode cX4_known 13 = .ok (.invokevirtual 86, 3) := by decide +kernel
theorem dX4_known_16 : decode cX4_known 16 = .ok (.ifCond .eq 11, 3) := by decide +kernel
theorem dX4_known_19 : decode cX4_known 19 = .ok (.aload_n 0, 1) := by decide +kernel
theorem dX4_known_20 : decode cX4_known 20 = .ok (.iload_n 1, 1) := by decide +kernel
theorem dX4_known_21 : decode cX4_known 21 = .ok (.invokevirtual 123, 3) := by decide +kernel
theorem dX4_known_24 : decode cX4_known 24 = .ok (.goto 4, 3) := by decide +kernel
theorem dX4_known_27 : decode cX4_known 27 = .ok (.iconst 0, 1) := by decide +kernel
theorem dX4_known_28 : decode cX4_known 28 = .ok (.ireturn, 1) := by decide +kernel
theorem dX4_send_0 : decode cX4_send 0 = .ok (.aload_n 0, 1) := by decide +kernel
theorem dX4_send_1 : decode cX4_send 1 = .ok (.aload_n 0, 1) := by decide +kernel
theorem dX4_send_2 : decode cX4_send 2 = .ok (.iload_n 1, 1) := by decide +kernel
theorem dX4_send_3 : decode cX4_send 3 = .ok (.invokevirtual 110, 3) := by decide +kernel
theorem dX4_send_6 : decode cX4_send 6 = .ok (.ifCond .ne 7, 3) := by decide +kernel
theorem dX4_send_9 : decode cX4_send 9 = .ok (.iconst 1, 1) := by decide +kernel
theorem dX4_send_10 : decode cX4_send 10 = .ok (.goto 26, 3) := by decide +kernel
theorem dX4_send_13 : decode cX4_send 13 = .ok (.iload_n 2, 1) := by decide +kernel
theorem dX4_send_14 : decode cX4_send 14 = .ok (.invokestatic 92, 3) := by decide +kernel
theorem dX4_send_17 : decode cX4_send 17 = .ok (.ifCond .ne 7, 3) := by decide +kernel
theorem dX4_send_20 : decode cX4_send 20 = .ok (.iconst 2, 1) := by decide +kernel
theorem dX4_send_21 : decode cX4_send 21 = .ok (.goto 15, 3) := by decide +kernel
theorem dX4_send_24 : decode cX4_send 24 = .ok (.aload_n 0, 1) := by decide +kernel
theorem dX4_send_25 : decode cX4_send 25 = .ok (.invokevirtual 69, 3) := by decide +kernel
theorem dX4_send_28 : decode cX4_send 28 = .ok (.ifCond .ne 7, 3) := by decide +kernel
theorem dX4_send_31 : decode cX4_send 31 = .ok (.iconst 3, 1) := by decide +kernel
theorem dX4_send_32 : decode cX4_send 32 = .ok (.goto 4, 3) := by decide +kernel
theorem dX4_send_35 : decode cX4_send 35 = .ok (.iconst 0, 1) := by decide +kernel
theorem dX4_send_36 : decode cX4_send 36 = .ok (.invokevirtual 86, 3) := by decide +kernel
theorem dX4_send_39 : decode cX4_send 39 = .ok (.ifCond .ne 5, 3) := by decide +kernel
theorem dX4_send_42 : decode cX4_send 42 = .ok (.iconst 0, 1) := by decide +kernel
theorem dX4_send_43 : decode cX4_send 43 = .ok (.ireturn, 1) := by decide +kernel
theorem dX4_send_44 : decode cX4_send 44 = .ok (.aload_n 0, 1) := by decide +kernel
theorem dX4_send_45 : decode cX4_send 45 = .ok (.invokevirtual 80, 3) := by decide +kernel
theorem dX4_send_48 : decode cX4_send 48 = .ok (.aload_n 0, 1) := by decide +kernel
theorem dX4_send_49 : decode cX4_send 49 = .ok (.iload_n 1, 1) := by decide +kernel
theorem dX4_send_50 : decode cX4_send 50 = .ok (.iload_n 2, 1) := by decide +kernel
theorem dX4_send_51 : decode cX4_send 51 = .ok (.invokevirtual 126, 3) := by decide +kernel
theorem dX4_send_54 : decode cX4_send 54 = .ok (.ireturn, 1) := by decide +kernel
theorem dX4_answer_0 : decode cX4_answer 0 = .ok (.iload_n 1, 1) := by decide +kernel
theorem dX4_answer_1 : decode cX4_answer 1 = .ok (.invokestatic 95, 3) := by decide +kernel
theorem dX4_answer_4 : decode cX4_answer 4 = .ok (.istore_n 3, 1) := by decide +kernel
theorem dX4_answer_5 : decode cX4_answer 5 = .ok (.aload_n 0, 1) := by decide +kernel
theorem dX4_answer_6 : decode cX4_answer 6 = .ok (.iload_n 3, 1) := by decide +kernel
theorem dX4_answer_7 : decode cX4_answer 7 = .ok (.ifCond .ne 7, 3) := by decide +kernel
theorem dX4_answer_10 : decode cX4_answer 10 = .ok (.iconst 1, 1) := by decide +kernel
theorem dX4_answer_11 : decode cX4_answer 11 = .ok (.goto 27, 3) := by decide +kernel
theorem dX4_answer_14 : decode cX4_answer 14 = .ok (.iload_n 2, 1) := by decide +kernel
theorem dX4_answer_15 : decode cX4_answer 15 = .ok (.invokestatic 92, 3) := by decide +kernel
theorem dX4_answer_18 : decode cX4_answer 18 = .ok (.ifCond .ne 7, 3) := by decide +kernel
theorem dX4_answer_21 : decode cX4_answer 21 = .ok (.iconst 2, 1) := by decide +kernel
theorem dX4_answer_22 : decode cX4_answer 22 = .ok (.goto 16, 3) := by decide +kernel
theorem dX4_answer_25 : decode cX4_answer 25 = .ok (.aload_n 0, 1) := by decide +kernel
theorem dX4_answer_26 : decode cX4_answer 26 = .ok (.iload_n 1, 1) := by decide +kernel
theorem dX4_answer_27 : decode cX4_answer 27 = .ok (.invokevirtual 129, 3) := by decide +kernel
theorem dX4_answer_30 : decode cX4_answer 30 = .ok (.ifCond .ne 7, 3) := by decide +kernel
theorem dX4_answer_33 : decode cX4_answer 33 = .ok (.iconst 3, 1) := by decide +kernel
theorem dX4_answer_34 : decode cX4_answer 34 = .ok (.goto 4, 3) := by decide +kernel
theorem dX4_answer_37 : decode cX4_answer 37 = .ok (.iconst 0, 1) := by decide +kernel
theorem dX4_answer_38 : decode cX4_answer 38 = .ok (.invokevirtual 86, 3) := by decide +kernel
theorem dX4_answer_41 : decode cX4_answer 41 = .ok (.ifCond .ne 5, 3) := by decide +kernel
theorem dX4_answer_44 : decode cX4_answer 44 = .ok (.iconst 0, 1) := by decide +kernel
theorem dX4_answer_45 : decode cX4_answer 45 = .ok (.ireturn, 1) := by decide +kernel
theorem dX4_answer_46 : decode cX4_answer 46 = .ok (.aload_n 0, 1) := by decide +kernel
theorem dX4_answer_47 : decode cX4_answer 47 = .ok (.invokevirtual 80, 3) := by decide +kernel
theorem dX4_answer_50 : decode cX4_answer 50 = .ok (.aload_n 0, 1) := by decide +kernel
theorem dX4_answer_51 : decode cX4_answer 51 = .ok (.iload_n 1, 1) := by decide +kernel
theorem dX4_answer_52 : decode cX4_answer 52 = .ok (.iload_n 2, 1) := by decide +kernel
theorem dX4_answer_53 : decode cX4_answer 53 = .ok (.invokevirtual 132, 3) := by decide +kernel
theorem dX4_answer_56 : decode cX4_answer 56 = .ok (.ireturn, 1) := by decide +kernel
theorem dX4_pass_0 : decode cX4_pass 0 = .ok (.aload_n 0, 1) := by decide +kernel
theorem dX4_pass_1 : decode cX4_pass 1 = .ok (.iload_n 1, 1) := by decide +kernel
theorem dX4_pass_2 : decode cX4_pass 2 = .ok (.iconst 1, 1) := by decide +kernel
theorem dX4_pass_3 : decode cX4_pass 3 = .ok (.bipush 9, 2) := by decide +kernel
theorem dX4_pass_5 : decode cX4_pass 5 = .ok (.invokestatic 20, 3) := by decide +kernel
theorem dX4_pass_8 : decode cX4_pass 8 = .ok (.ifCond .eq 7, 3) := by decide +kernel
theorem dX4_pass_11 : decode cX4_pass 11 = .ok (.iconst 0, 1) := by decide +kernel
theorem dX4_pass_12 : decode cX4_pass 12 = .ok (.goto 4, 3) := by decide +kernel
theorem dX4_pass_15 : decode cX4_pass 15 = .ok (.iconst 1, 1) := by decide +kernel
theorem dX4_pass_16 : decode cX4_pass 16 = .ok (.invokevirtual 86, 3) := by decide +kernel
theorem dX4_pass_19 : decode cX4_pass 19 = .ok (.ifCond .ne 5, 3) := by decide +kernel
theorem dX4_pass_22 : decode cX4_pass 22 = .ok (.iconst 0, 1) := by decide +kernel
theorem dX4_pass_23 : decode cX4_pass 23 = .ok (.ireturn, 1) := by decide +kernel
theorem dX4_pass_24 : decode cX4_pass 24 = .ok (.aload_n 0, 1) := by decide +kernel
theorem dX4_pass_25 : decode cX4_pass 25 = .ok (.invokevirtual 80, 3) := by decide +kernel
theorem dX4_pass_28 : decode cX4_pass 28 = .ok (.aload_n 0, 1) := by decide +kernel
theorem dX4_pass_29 : decode cX4_pass 29 = .ok (.iload_n 1, 1) := by decide +kernel
theorem dX4_pass_30 : decode cX4_pass 30 = .ok (.invokevirtual 135, 3) := by decide +kernel
theorem dX4_pass_33 : decode cX4_pass 33 = .ok (.ireturn, 1) := by decide +kernel
theorem dX4_envelopes_0 : decode cX4_envelopes 0 = .ok (.aload_n 0, 1) := by decide +kernel
theorem dX4_envelopes_1 : decode cX4_envelopes 1 = .ok (.aload_n 0, 1) := by decide +kernel
theorem dX4_envelopes_2 : decode cX4_envelopes 2 = .ok (.getfield 7, 3) := by decide +kernel
theorem dX4_envelopes_5 : decode cX4_envelopes 5 = .ok (.iconst 1, 1) := by decide +kernel
theorem dX4_envelopes_6 : decode cX4_envelopes 6 = .ok (.iaload, 1) := by decide +kernel
theorem dX4_envelopes_7 : decode cX4_envelopes 7 = .ok (.invokevirtual 107, 3) := by decide +kernel
theorem dX4_envelopes_10 : decode cX4_envelopes 10 = .ok (.ireturn, 1) := by decide +kernel
theorem dX4_envelope_0 : decode cX4_envelope 0 = .ok (.aload_n 0, 1) := by decide +kernel
theorem dX4_envelope_1 : decode cX4_envelope 1 = .ok (.aload_n 0, 1) := by decide +kernel
theorem dX4_envelope_2 : decode cX4_envelope 2 = .ok (.iload_n 1, 1) := by decide +kernel
theorem dX4_envelope_3 : decode cX4_envelope 3 = .ok (.invokevirtual 138, 3) := by decide +kernel
theorem dX4_envelope_6 : decode cX4_envelope 6 = .ok (.ifCond .eq 16, 3) := by decide +kernel
theorem dX4_envelope_9 : decode cX4_envelope 9 = .ok (.iload_n 2, 1) := by decide +kernel
theorem dX4_envelope_10 : decode cX4_envelope 10 = .ok (.iconst 0, 1) := by decide +kernel
theorem dX4_envelope_11 : decode cX4_envelope 11 = .ok (.iconst 3, 1) := by decide +kernel
theorem dX4_envelope_12 : decode cX4_envelope 12 = .ok (.invokestatic 20, 3) := by decide +kernel
theorem dX4_envelope_15 : decode cX4_envelope 15 = .ok (.ifCond .eq 7, 3) := by decide +kernel
theorem dX4_envelope_18 : decode cX4_envelope 18 = .ok (.iconst 0, 1) := by decide +kernel
theorem dX4_envelope_19 : decode cX4_envelope 19 = .ok (.goto 4, 3) := by decide +kernel
theorem dX4_envelope_22 : decode cX4_envelope 22 = .ok (.iconst 1, 1) := by decide +kernel
theorem dX4_envelope_23 : decode cX4_envelope 23 = .ok (.invokevirtual 86, 3) := by decide +kernel
theorem dX4_envelope_26 : decode cX4_envelope 26 = .ok (.ifCond .eq 12, 3) := by decide +kernel
theorem dX4_envelope_29 : decode cX4_envelope 29 = .ok (.aload_n 0, 1) := by decide +kernel
theorem dX4_envelope_30 : decode cX4_envelope 30 = .ok (.iload_n 1, 1) := by decide +kernel
theorem dX4_envelope_31 : decode cX4_envelope 31 = .ok (.iload_n 2, 1) := by decide +kernel
theorem dX4_envelope_32 : decode cX4_envelope 32 = .ok (.invokevirtual 46, 3) := by decide +kernel
theorem dX4_envelope_35 : decode cX4_envelope 35 = .ok (.goto 4, 3) := by decide +kernel
theorem dX4_envelope_38 : decode cX4_envelope 38 = .ok (.iconst 0, 1) := by decide +kernel
theorem dX4_envelope_39 : decode cX4_envelope 39 = .ok (.ireturn, 1) := by decide +kernel
theorem dX4_letter_0 : decode cX4_letter 0 = .ok (.aload_n 0, 1) := by decide +kernel
theorem dX4_letter_1 : decode cX4_letter 1 = .ok (.iload_n 1, 1) := by decide +kernel
theorem dX4_letter_2 : decode cX4_letter 2 = .ok (.invokestatic 95, 3) := by decide +kernel
theorem dX4_letter_5 : decode cX4_letter 5 = .ok (.ifCond .eq 7, 3) := by decide +kernel
theorem dX4_letter_8 : decode cX4_letter 8 = .ok (.iconst 0, 1) := by decide +kernel
theorem dX4_letter_9 : decode cX4_letter 9 = .ok (.goto 4, 3) := by decide +kernel
theorem dX4_letter_12 : decode cX4_letter 12 = .ok (.iconst 1, 1) := by decide +kernel
theorem dX4_letter_13 : decode cX4_letter 13 = .ok (.invokevirtual 86, 3) := by decide +kernel
theorem dX4_letter_16 : decode cX4_letter 16 = .ok (.ifCond .eq 15, 3) := by decide +kernel
theorem dX4_letter_19 : decode cX4_letter 19 = .ok (.aload_n 0, 1) := by decide +kernel
theorem dX4_letter_20 : decode cX4_letter 20 = .ok (.getfield 7, 3) := by decide +kernel
theorem dX4_letter_23 : decode cX4_letter 23 = .ok (.bipush 114, 2) := by decide +kernel
theorem dX4_letter_25 : decode cX4_letter 25 = .ok (.iload_n 1, 1) := by decide +kernel
theorem dX4_letter_26 : decode cX4_letter 26 = .ok (.iadd, 1) := by decide +kernel
theorem dX4_letter_27 : decode cX4_letter 27 = .ok (.iaload, 1) := by decide +kernel
theorem dX4_letter_28 : decode cX4_letter 28 = .ok (.goto 4, 3) := by decide +kernel
theorem dX4_letter_31 : decode cX4_letter 31 = .ok (.iconst 0, 1) := by decide +kernel
theorem dX4_letter_32 : decode cX4_letter 32 = .ok (.ireturn, 1) := by decide +kernel
theorem dX4_lastAnswer_0 : decode cX4_lastAnswer 0 = .ok (.aload_n 0, 1) := by decide +kernel
theorem dX4_lastAnswer_1 : decode cX4_lastAnswer 1 = .ok (.aload_n 0, 1) := by decide +kernel
theorem dX4_lastAnswer_2 : decode cX4_lastAnswer 2 = .ok (.getfield 7, 3) := by decide +kernel
theorem dX4_lastAnswer_5 : decode cX4_lastAnswer 5 = .ok (.iconst 2, 1) := by decide +kernel
theorem dX4_lastAnswer_6 : decode cX4_lastAnswer 6 = .ok (.iaload, 1) := by decide +kernel
theorem dX4_lastAnswer_7 : decode cX4_lastAnswer 7 = .ok (.invokevirtual 107, 3) := by decide +kernel
theorem dX4_lastAnswer_10 : decode cX4_lastAnswer 10 = .ok (.ireturn, 1) := by decide +kernel
theorem dX4_count_0 : decode cX4_count 0 = .ok (.aload_n 0, 1) := by decide +kernel
theorem dX4_count_1 : decode cX4_count 1 = .ok (.iload_n 1, 1) := by decide +kernel
theorem dX4_count_2 : decode cX4_count 2 = .ok (.iconst 0, 1) := by decide +kernel
theorem dX4_count_3 : decode cX4_count 3 = .ok (.iconst 4, 1) := by decide +kernel
theorem dX4_count_4 : decode cX4_count 4 = .ok (.invokestatic 20, 3) := by decide +kernel
theorem dX4_count_7 : decode cX4_count 7 = .ok (.ifCond .eq 7, 3) := by decide +kernel
theorem dX4_count_10 : decode cX4_count 10 = .ok (.iconst 0, 1) := by decide +kernel
theorem dX4_count_11 : decode cX4_count 11 = .ok (.goto 4, 3) := by decide +kernel
theorem dX4_count_14 : decode cX4_count 14 = .ok (.iconst 1, 1) := by decide +kernel
theorem dX4_count_15 : decode cX4_count 15 = .ok (.invokevirtual 86, 3) := by decide +kernel
theorem dX4_count_18 : decode cX4_count 18 = .ok (.ifCond .eq 14, 3) := by decide +kernel
theorem dX4_count_21 : decode cX4_count 21 = .ok (.aload_n 0, 1) := by decide +kernel
theorem dX4_count_22 : decode cX4_count 22 = .ok (.getfield 7, 3) := by decide +kernel
theorem dX4_count_25 : decode cX4_count 25 = .ok (.iconst 3, 1) := by decide +kernel
theorem dX4_count_26 : decode cX4_count 26 = .ok (.iload_n 1, 1) := by decide +kernel
theorem dX4_count_27 : decode cX4_count 27 = .ok (.iadd, 1) := by decide +kernel
theorem dX4_count_28 : decode cX4_count 28 = .ok (.iaload, 1) := by decide +kernel
theorem dX4_count_29 : decode cX4_count 29 = .ok (.goto 4, 3) := by decide +kernel
theorem dX4_count_32 : decode cX4_count 32 = .ok (.iconst 0, 1) := by decide +kernel
theorem dX4_count_33 : decode cX4_count 33 = .ok (.ireturn, 1) := by decide +kernel
theorem dX4_deliveredShare_0 : decode cX4_deliveredShare 0 = .ok (.aload_n 0, 1) := by decide +kernel
theorem dX4_deliveredShare_1 : decode cX4_deliveredShare 1 = .ok (.iconst 0, 1) := by decide +kernel
theorem dX4_deliveredShare_2 : decode cX4_deliveredShare 2 = .ok (.putfield 16, 3) := by decide +kernel
theorem dX4_deliveredShare_5 : decode cX4_deliveredShare 5 = .ok (.aload_n 0, 1) := by decide +kernel
theorem dX4_deliveredShare_6 : decode cX4_deliveredShare 6 = .ok (.getfield 7, 3) := by decide +kernel
theorem dX4_deliveredShare_9 : decode cX4_deliveredShare 9 = .ok (.iconst 3, 1) := by decide +kernel
theorem dX4_deliveredShare_10 : decode cX4_deliveredShare 10 = .ok (.iaload, 1) := by decide +kernel
theorem dX4_deliveredShare_11 : decode cX4_deliveredShare 11 = .ok (.ifCond .ne 7, 3) := by decide +kernel
theorem dX4_deliveredShare_14 : decode cX4_deliveredShare 14 = .ok (.dconst 1, 1) := by decide +kernel
theorem dX4_deliveredShare_15 : decode cX4_deliveredShare 15 = .ok (.goto 18, 3) := by decide +kernel
theorem dX4_deliveredShare_18 : decode cX4_deliveredShare 18 = .ok (.aload_n 0, 1) := by decide +kernel
theorem dX4_deliveredShare_19 : decode cX4_deliveredShare 19 = .ok (.getfield 7, 3) := by decide +kernel
theorem dX4_deliveredShare_22 : decode cX4_deliveredShare 22 = .ok (.iconst 4, 1) := by decide +kernel
theorem dX4_deliveredShare_23 : decode cX4_deliveredShare 23 = .ok (.iaload, 1) := by decide +kernel
theorem dX4_deliveredShare_24 : decode cX4_deliveredShare 24 = .ok (.i2d, 1) := by decide +kernel
theorem dX4_deliveredShare_25 : decode cX4_deliveredShare 25 = .ok (.aload_n 0, 1) := by decide +kernel
theorem dX4_deliveredShare_26 : decode cX4_deliveredShare 26 = .ok (.getfield 7, 3) := by decide +kernel
theorem dX4_deliveredShare_29 : decode cX4_deliveredShare 29 = .ok (.iconst 3, 1) := by decide +kernel
theorem dX4_deliveredShare_30 : decode cX4_deliveredShare 30 = .ok (.iaload, 1) := by decide +kernel
theorem dX4_deliveredShare_31 : decode cX4_deliveredShare 31 = .ok (.i2d, 1) := by decide +kernel
theorem dX4_deliveredShare_32 : decode cX4_deliveredShare 32 = .ok (.ddiv, 1) := by decide +kernel
theorem dX4_deliveredShare_33 : decode cX4_deliveredShare 33 = .ok (.dreturn, 1) := by decide +kernel
theorem dX4_lostBy_0 : decode cX4_lostBy 0 = .ok (.iconst 0, 1) := by decide +kernel
theorem dX4_lostBy_1 : decode cX4_lostBy 1 = .ok (.istore_n 2, 1) := by decide +kernel
theorem dX4_lostBy_2 : decode cX4_lostBy 2 = .ok (.iconst 0, 1) := by decide +kernel
theorem dX4_lostBy_3 : decode cX4_lostBy 3 = .ok (.istore_n 3, 1) := by decide +kernel
theorem dX4_lostBy_4 : decode cX4_lostBy 4 = .ok (.iload_n 3, 1) := by decide +kernel
theorem dX4_lostBy_5 : decode cX4_lostBy 5 = .ok (.aload_n 0, 1) := by decide +kernel
theorem dX4_lostBy_6 : decode cX4_lostBy 6 = .ok (.getfield 7, 3) := by decide +kernel
theorem dX4_lostBy_9 : decode cX4_lostBy 9 = .ok (.iconst 1, 1) := by decide +kernel
theorem dX4_lostBy_10 : decode cX4_lostBy 10 = .ok (.iaload, 1) := by decide +kernel
theorem dX4_lostBy_11 : decode cX4_lostBy 11 = .ok (.if_icmp .ge 27, 3) := by decide +kernel
theorem dX4_lostBy_14 : decode cX4_lostBy 14 = .ok (.iload_n 2, 1) := by decide +kernel
theorem dX4_lostBy_15 : decode cX4_lostBy 15 = .ok (.aload_n 0, 1) := by decide +kernel
theorem dX4_lostBy_16 : decode cX4_lostBy 16 = .ok (.iload_n 3, 1) := by decide +kernel
theorem dX4_lostBy_17 : decode cX4_lostBy 17 = .ok (.iload_n 1, 1) := by decide +kernel
theorem dX4_lostBy_18 : decode cX4_lostBy 18 = .ok (.invokevirtual 141, 3) := by decide +kernel
theorem dX4_lostBy_21 : decode cX4_lostBy 21 = .ok (.iconst (-1), 1) := by decide +kernel
theorem dX4_lostBy_22 : decode cX4_lostBy 22 = .ok (.if_icmp .ne 7, 3) := by decide +kernel
theorem dX4_lostBy_25 : decode cX4_lostBy 25 = .ok (.iconst 1, 1) := by decide +kernel
theorem dX4_lostBy_26 : decode cX4_lostBy 26 = .ok (.goto 4, 3) := by decide +kernel
theorem dX4_lostBy_29 : decode cX4_lostBy 29 = .ok (.iconst 0, 1) := by decide +kernel
theorem dX4_lostBy_30 : decode cX4_lostBy 30 = .ok (.iadd, 1) := by decide +kernel
theorem dX4_lostBy_31 : decode cX4_lostBy 31 = .ok (.istore_n 2, 1) := by decide +kernel
theorem dX4_lostBy_32 : decode cX4_lostBy 32 = .ok (.iinc 3 1, 3) := by decide +kernel
theorem dX4_lostBy_35 : decode cX4_lostBy 35 = .ok (.goto (-31), 3) := by decide +kernel
theorem dX4_lostBy_38 : decode cX4_lostBy 38 = .ok (.iload_n 2, 1) := by decide +kernel
theorem dX4_lostBy_39 : decode cX4_lostBy 39 = .ok (.ireturn, 1) := by decide +kernel
theorem dX4_lostIfClosed_0 : decode cX4_lostIfClosed 0 = .ok (.aload_n 0, 1) := by decide +kernel
theorem dX4_lostIfClosed_1 : decode cX4_lostIfClosed 1 = .ok (.iload_n 1, 1) := by decide +kernel
theorem dX4_lostIfClosed_2 : decode cX4_lostIfClosed 2 = .ok (.invokestatic 83, 3) := by decide +kernel
theorem dX4_lostIfClosed_5 : decode cX4_lostIfClosed 5 = .ok (.ifCond .eq 7, 3) := by decide +kernel
theorem dX4_lostIfClosed_8 : decode cX4_lostIfClosed 8 = .ok (.iconst 0, 1) := by decide +kernel
theorem dX4_lostIfClosed_9 : decode cX4_lostIfClosed 9 = .ok (.goto 4, 3) := by decide +kernel
theorem dX4_lostIfClosed_12 : decode cX4_lostIfClosed 12 = .ok (.iconst 1, 1) := by decide +kernel
theorem dX4_lostIfClosed_13 : decode cX4_lostIfClosed 13 = .ok (.invokevirtual 86, 3) := by decide +kernel
theorem dX4_lostIfClosed_16 : decode cX4_lostIfClosed 16 = .ok (.ifCond .eq 11, 3) := by decide +kernel
theorem dX4_lostIfClosed_19 : decode cX4_lostIfClosed 19 = .ok (.aload_n 0, 1) := by decide +kernel
theorem dX4_lostIfClosed_20 : decode cX4_lostIfClosed 20 = .ok (.iload_n 1, 1) := by decide +kernel
theorem dX4_lostIfClosed_21 : decode cX4_lostIfClosed 21 = .ok (.invokevirtual 144, 3) := by decide +kernel
theorem dX4_lostIfClosed_24 : decode cX4_lostIfClosed 24 = .ok (.goto 4, 3) := by decide +kernel
theorem dX4_lostIfClosed_27 : decode cX4_lostIfClosed 27 = .ok (.iconst 0, 1) := by decide +kernel
theorem dX4_lostIfClosed_28 : decode cX4_lostIfClosed 28 = .ok (.ireturn, 1) := by decide +kernel
theorem dX4_ticksTo_0 : decode cX4_ticksTo 0 = .ok (.aload_n 0, 1) := by decide +kernel
theorem dX4_ticksTo_1 : decode cX4_ticksTo 1 = .ok (.aload_n 0, 1) := by decide +kernel
theorem dX4_ticksTo_2 : decode cX4_ticksTo 2 = .ok (.iload_n 1, 1) := by decide +kernel
theorem dX4_ticksTo_3 : decode cX4_ticksTo 3 = .ok (.invokevirtual 138, 3) := by decide +kernel
theorem dX4_ticksTo_6 : decode cX4_ticksTo 6 = .ok (.ifCond .eq 7, 3) := by decide +kernel
theorem dX4_ticksTo_9 : decode cX4_ticksTo 9 = .ok (.iconst 0, 1) := by decide +kernel
theorem dX4_ticksTo_10 : decode cX4_ticksTo 10 = .ok (.goto 4, 3) := by decide +kernel
theorem dX4_ticksTo_13 : decode cX4_ticksTo 13 = .ok (.iconst 1, 1) := by decide +kernel
theorem dX4_ticksTo_14 : decode cX4_ticksTo 14 = .ok (.invokevirtual 86, 3) := by decide +kernel
theorem dX4_ticksTo_17 : decode cX4_ticksTo 17 = .ok (.ifCond .eq 12, 3) := by decide +kernel
theorem dX4_ticksTo_20 : decode cX4_ticksTo 20 = .ok (.aload_n 0, 1) := by decide +kernel
theorem dX4_ticksTo_21 : decode cX4_ticksTo 21 = .ok (.iload_n 1, 1) := by decide +kernel
theorem dX4_ticksTo_22 : decode cX4_ticksTo 22 = .ok (.iconst (-1), 1) := by decide +kernel
theorem dX4_ticksTo_23 : decode cX4_ticksTo 23 = .ok (.invokevirtual 141, 3) := by decide +kernel
theorem dX4_ticksTo_26 : decode cX4_ticksTo 26 = .ok (.goto 4, 3) := by decide +kernel
theorem dX4_ticksTo_29 : decode cX4_ticksTo 29 = .ok (.iconst 0, 1) := by decide +kernel
theorem dX4_ticksTo_30 : decode cX4_ticksTo 30 = .ok (.ireturn, 1) := by decide +kernel
theorem dX4_work_0 : decode cX4_work 0 = .ok (.iconst 0, 1) := by decide +kernel
theorem dX4_work_1 : decode cX4_work 1 = .ok (.istore_n 2, 1) := by decide +kernel
theorem dX4_work_2 : decode cX4_work 2 = .ok (.iconst 0, 1) := by decide +kernel
theorem dX4_work_3 : decode cX4_work 3 = .ok (.istore_n 3, 1) := by decide +kernel
theorem dX4_work_4 : decode cX4_work 4 = .ok (.iload_n 3, 1) := by decide +kernel
theorem dX4_work_5 : decode cX4_work 5 = .ok (.aload_n 0, 1) := by decide +kernel
theorem dX4_work_6 : decode cX4_work 6 = .ok (.getfield 7, 3) := by decide +kernel
theorem dX4_work_9 : decode cX4_work 9 = .ok (.iconst 0, 1) := by decide +kernel
theorem dX4_work_10 : decode cX4_work 10 = .ok (.iaload, 1) := by decide +kernel
theorem dX4_work_11 : decode cX4_work 11 = .ok (.if_icmp .ge 26, 3) := by decide +kernel
theorem dX4_work_14 : decode cX4_work 14 = .ok (.iload_n 2, 1) := by decide +kernel
theorem dX4_work_15 : decode cX4_work 15 = .ok (.aload_n 0, 1) := by decide +kernel
theorem dX4_work_16 : decode cX4_work 16 = .ok (.iload_n 1, 1) := by decide +kernel
theorem dX4_work_17 : decode cX4_work 17 = .ok (.iload_n 3, 1) := by decide +kernel
theorem dX4_work_18 : decode cX4_work 18 = .ok (.invokevirtual 116, 3) := by decide +kernel
theorem dX4_work_21 : decode cX4_work 21 = .ok (.ifCond .le 7, 3) := by decide +kernel
theorem dX4_work_24 : decode cX4_work 24 = .ok (.iconst 1, 1) := by decide +kernel
theorem dX4_work_25 : decode cX4_work 25 = .ok (.goto 4, 3) := by decide +kernel
theorem dX4_work_28 : decode cX4_work 28 = .ok (.iconst 0, 1) := by decide +kernel
theorem dX4_work_29 : decode cX4_work 29 = .ok (.iadd, 1) := by decide +kernel
theorem dX4_work_30 : decode cX4_work 30 = .ok (.istore_n 2, 1) := by decide +kernel
theorem dX4_work_31 : decode cX4_work 31 = .ok (.iinc 3 1, 3) := by decide +kernel
theorem dX4_work_34 : decode cX4_work 34 = .ok (.goto (-30), 3) := by decide +kernel
theorem dX4_work_37 : decode cX4_work 37 = .ok (.bipush 8, 2) := by decide +kernel
theorem dX4_work_39 : decode cX4_work 39 = .ok (.iload_n 2, 1) := by decide +kernel
theorem dX4_work_40 : decode cX4_work 40 = .ok (.imul, 1) := by decide +kernel
theorem dX4_work_41 : decode cX4_work 41 = .ok (.iload_n 1, 1) := by decide +kernel
theorem dX4_work_42 : decode cX4_work 42 = .ok (.iadd, 1) := by decide +kernel
theorem dX4_work_43 : decode cX4_work 43 = .ok (.ireturn, 1) := by decide +kernel
theorem dX4_least_0 : decode cX4_least 0 = .ok (.iconst 0, 1) := by decide +kernel
theorem dX4_least_1 : decode cX4_least 1 = .ok (.istore_n 2, 1) := by decide +kernel
theorem dX4_least_2 : decode cX4_least 2 = .ok (.iload_n 2, 1) := by decide +kernel
theorem dX4_least_3 : decode cX4_least 3 = .ok (.bipush 8, 2) := by decide +kernel
theorem dX4_least_5 : decode cX4_least 5 = .ok (.if_icmp .ge 75, 3) := by decide +kernel
theorem dX4_least_8 : decode cX4_least 8 = .ok (.iconst 0, 1) := by decide +kernel
theorem dX4_least_9 : decode cX4_least 9 = .ok (.istore_n 3, 1) := by decide +kernel
theorem dX4_least_10 : decode cX4_least 10 = .ok (.iconst 0, 1) := by decide +kernel
theorem dX4_least_11 : decode cX4_least 11 = .ok (.istore 4, 2) := by decide +kernel
theorem dX4_least_13 : decode cX4_least 13 = .ok (.iload 4, 2) := by decide +kernel
theorem dX4_least_15 : decode cX4_least 15 = .ok (.bipush 8, 2) := by decide +kernel
theorem dX4_least_17 : decode cX4_least 17 = .ok (.if_icmp .ge 40, 3) := by decide +kernel
theorem dX4_least_20 : decode cX4_least 20 = .ok (.iload_n 3, 1) := by decide +kernel
theorem dX4_least_21 : decode cX4_least 21 = .ok (.aload_n 0, 1) := by decide +kernel
theorem dX4_least_22 : decode cX4_least 22 = .ok (.iload 4, 2) := by decide +kernel
theorem dX4_least_24 : decode cX4_least 24 = .ok (.invokevirtual 28, 3) := by decide +kernel
theorem dX4_least_27 : decode cX4_least 27 = .ok (.ifCond .eq 21, 3) := by decide +kernel
theorem dX4_least_30 : decode cX4_least 30 = .ok (.aload_n 0, 1) := by decide +kernel
theorem dX4_least_31 : decode cX4_least 31 = .ok (.iload 4, 2) := by decide +kernel
theorem dX4_least_33 : decode cX4_least 33 = .ok (.invokevirtual 147, 3) := by decide +kernel
theorem dX4_least_36 : decode cX4_least 36 = .ok (.aload_n 0, 1) := by decide +kernel
theorem dX4_least_37 : decode cX4_least 37 = .ok (.iload_n 2, 1) := by decide +kernel
theorem dX4_least_38 : decode cX4_least 38 = .ok (.invokevirtual 147, 3) := by decide +kernel
theorem dX4_least_41 : decode cX4_least 41 = .ok (.if_icmp .ge 7, 3) := by decide +kernel
theorem dX4_least_44 : decode cX4_least 44 = .ok (.iconst 1, 1) := by decide +kernel
theorem dX4_least_45 : decode cX4_least 45 = .ok (.goto 4, 3) := by decide +kernel
theorem dX4_least_48 : decode cX4_least 48 = .ok (.iconst 0, 1) := by decide +kernel
theorem dX4_least_49 : decode cX4_least 49 = .ok (.iadd, 1) := by decide +kernel
theorem dX4_least_50 : decode cX4_least 50 = .ok (.istore_n 3, 1) := by decide +kernel
theorem dX4_least_51 : decode cX4_least 51 = .ok (.iinc 4 1, 3) := by decide +kernel
theorem dX4_least_54 : decode cX4_least 54 = .ok (.goto (-41), 3) := by decide +kernel
theorem dX4_least_57 : decode cX4_least 57 = .ok (.aload_n 0, 1) := by decide +kernel
theorem dX4_least_58 : decode cX4_least 58 = .ok (.iload_n 2, 1) := by decide +kernel
theorem dX4_least_59 : decode cX4_least 59 = .ok (.invokevirtual 28, 3) := by decide +kernel
theorem dX4_least_62 : decode cX4_least 62 = .ok (.ifCond .eq 12, 3) := by decide +kernel
theorem dX4_least_65 : decode cX4_least 65 = .ok (.iload_n 3, 1) := by decide +kernel
theorem dX4_least_66 : decode cX4_least 66 = .ok (.iload_n 1, 1) := by decide +kernel
theorem dX4_least_67 : decode cX4_least 67 = .ok (.iconst 1, 1) := by decide +kernel
theorem dX4_least_68 : decode cX4_least 68 = .ok (.isub, 1) := by decide +kernel
theorem dX4_least_69 : decode cX4_least 69 = .ok (.if_icmp .ne 5, 3) := by decide +kernel
theorem dX4_least_72 : decode cX4_least 72 = .ok (.iload_n 2, 1) := by decide +kernel
theorem dX4_least_73 : decode cX4_least 73 = .ok (.ireturn, 1) := by decide +kernel
theorem dX4_least_74 : decode cX4_least 74 = .ok (.iinc 2 1, 3) := by decide +kernel
theorem dX4_least_77 : decode cX4_least 77 = .ok (.goto (-75), 3) := by decide +kernel
theorem dX4_least_80 : decode cX4_least 80 = .ok (.iconst (-1), 1) := by decide +kernel
theorem dX4_least_81 : decode cX4_least 81 = .ok (.ireturn, 1) := by decide +kernel
theorem dX4_leastWork_0 : decode cX4_leastWork 0 = .ok (.aload_n 0, 1) := by decide +kernel
theorem dX4_leastWork_1 : decode cX4_leastWork 1 = .ok (.iload_n 1, 1) := by decide +kernel
theorem dX4_leastWork_2 : decode cX4_leastWork 2 = .ok (.iconst 1, 1) := by decide +kernel
theorem dX4_leastWork_3 : decode cX4_leastWork 3 = .ok (.iconst 3, 1) := by decide +kernel
theorem dX4_leastWork_4 : decode cX4_leastWork 4 = .ok (.invokestatic 20, 3) := by decide +kernel
theorem dX4_leastWork_7 : decode cX4_leastWork 7 = .ok (.ifCond .eq 7, 3) := by decide +kernel
theorem dX4_leastWork_10 : decode cX4_leastWork 10 = .ok (.iconst 0, 1) := by decide +kernel
theorem dX4_leastWork_11 : decode cX4_leastWork 11 = .ok (.goto 4, 3) := by decide +kernel
theorem dX4_leastWork_14 : decode cX4_leastWork 14 = .ok (.iconst 1, 1) := by decide +kernel
theorem dX4_leastWork_15 : decode cX4_leastWork 15 = .ok (.invokevirtual 86, 3) := by decide +kernel
theorem dX4_leastWork_18 : decode cX4_leastWork 18 = .ok (.ifCond .eq 11, 3) := by decide +kernel
theorem dX4_leastWork_21 : decode cX4_leastWork 21 = .ok (.aload_n 0, 1) := by decide +kernel
theorem dX4_leastWork_22 : decode cX4_leastWork 22 = .ok (.iload_n 1, 1) := by decide +kernel
theorem dX4_leastWork_23 : decode cX4_leastWork 23 = .ok (.invokevirtual 150, 3) := by decide +kernel
theorem dX4_leastWork_26 : decode cX4_leastWork 26 = .ok (.goto 4, 3) := by decide +kernel
theorem dX4_leastWork_29 : decode cX4_leastWork 29 = .ok (.iconst 0, 1) := by decide +kernel
theorem dX4_leastWork_30 : decode cX4_leastWork 30 = .ok (.ireturn, 1) := by decide +kernel
theorem dX4_append_0 : decode cX4_append 0 = .ok (.aload_n 0, 1) := by decide +kernel
theorem dX4_append_1 : decode cX4_append 1 = .ok (.iload_n 1, 1) := by decide +kernel
theorem dX4_append_2 : decode cX4_append 2 = .ok (.bipush 33, 2) := by decide +kernel
theorem dX4_append_4 : decode cX4_append 4 = .ok (.bipush 126, 2) := by decide +kernel
theorem dX4_append_6 : decode cX4_append 6 = .ok (.invokestatic 20, 3) := by decide +kernel
theorem dX4_append_9 : decode cX4_append 9 = .ok (.ifCond .ne 7, 3) := by decide +kernel
theorem dX4_append_12 : decode cX4_append 12 = .ok (.iconst 1, 1) := by decide +kernel
theorem dX4_append_13 : decode cX4_append 13 = .ok (.goto 17, 3) := by decide +kernel
theorem dX4_append_16 : decode cX4_append 16 = .ok (.aload_n 0, 1) := by decide +kernel
theorem dX4_append_17 : decode cX4_append 17 = .ok (.getfield 153, 3) := by decide +kernel
theorem dX4_append_20 : decode cX4_append 20 = .ok (.bipush 60, 2) := by decide +kernel
theorem dX4_append_22 : decode cX4_append 22 = .ok (.if_icmp .ne 7, 3) := by decide +kernel
theorem dX4_append_25 : decode cX4_append 25 = .ok (.iconst 2, 1) := by decide +kernel
theorem dX4_append_26 : decode cX4_append 26 = .ok (.goto 4, 3) := by decide +kernel
theorem dX4_append_29 : decode cX4_append 29 = .ok (.iconst 0, 1) := by decide +kernel
theorem dX4_append_30 : decode cX4_append 30 = .ok (.invokevirtual 86, 3) := by decide +kernel
theorem dX4_append_33 : decode cX4_append 33 = .ok (.ifCond .ne 5, 3) := by decide +kernel
theorem dX4_append_36 : decode cX4_append 36 = .ok (.iconst 0, 1) := by decide +kernel
theorem dX4_append_37 : decode cX4_append 37 = .ok (.ireturn, 1) := by decide +kernel
theorem dX4_append_38 : decode cX4_append 38 = .ok (.aload_n 0, 1) := by decide +kernel
theorem dX4_append_39 : decode cX4_append 39 = .ok (.getfield 13, 3) := by decide +kernel
theorem dX4_append_42 : decode cX4_append 42 = .ok (.aload_n 0, 1) := by decide +kernel
theorem dX4_append_43 : decode cX4_append 43 = .ok (.getfield 153, 3) := by decide +kernel
theorem dX4_append_46 : decode cX4_append 46 = .ok (.iload_n 1, 1) := by decide +kernel
theorem dX4_append_47 : decode cX4_append 47 = .ok (.iastore, 1) := by decide +kernel
theorem dX4_append_48 : decode cX4_append 48 = .ok (.aload_n 0, 1) := by decide +kernel
theorem dX4_append_49 : decode cX4_append 49 = .ok (.dup, 1) := by decide +kernel
theorem dX4_append_50 : decode cX4_append 50 = .ok (.getfield 153, 3) := by decide +kernel
theorem dX4_append_53 : decode cX4_append 53 = .ok (.iconst 1, 1) := by decide +kernel
theorem dX4_append_54 : decode cX4_append 54 = .ok (.iadd, 1) := by decide +kernel
theorem dX4_append_55 : decode cX4_append 55 = .ok (.putfield 153, 3) := by decide +kernel
theorem dX4_append_58 : decode cX4_append 58 = .ok (.aload_n 0, 1) := by decide +kernel
theorem dX4_append_59 : decode cX4_append 59 = .ok (.getfield 153, 3) := by decide +kernel
theorem dX4_append_62 : decode cX4_append 62 = .ok (.ireturn, 1) := by decide +kernel
theorem dX4_clearText_0 : decode cX4_clearText 0 = .ok (.aload_n 0, 1) := by decide +kernel
theorem dX4_clearText_1 : decode cX4_clearText 1 = .ok (.iconst 0, 1) := by decide +kernel
theorem dX4_clearText_2 : decode cX4_clearText 2 = .ok (.putfield 16, 3) := by decide +kernel
theorem dX4_clearText_5 : decode cX4_clearText 5 = .ok (.aload_n 0, 1) := by decide +kernel
theorem dX4_clearText_6 : decode cX4_clearText 6 = .ok (.getfield 153, 3) := by decide +kernel
theorem dX4_clearText_9 : decode cX4_clearText 9 = .ok (.istore_n 1, 1) := by decide +kernel
theorem dX4_clearText_10 : decode cX4_clearText 10 = .ok (.aload_n 0, 1) := by decide +kernel
theorem dX4_clearText_11 : decode cX4_clearText 11 = .ok (.iconst 0, 1) := by decide +kernel
theorem dX4_clearText_12 : decode cX4_clearText 12 = .ok (.putfield 153, 3) := by decide +kernel
theorem dX4_clearText_15 : decode cX4_clearText 15 = .ok (.iload_n 1, 1) := by decide +kernel
theorem dX4_clearText_16 : decode cX4_clearText 16 = .ok (.ireturn, 1) := by decide +kernel
theorem dX4_sign_0 : decode cX4_sign 0 = .ok (.aload_n 0, 1) := by decide +kernel
theorem dX4_sign_1 : decode cX4_sign 1 = .ok (.getfield 156, 3) := by decide +kernel
theorem dX4_sign_4 : decode cX4_sign 4 = .ok (.aload_n 0, 1) := by decide +kernel
theorem dX4_sign_5 : decode cX4_sign 5 = .ok (.getfield 153, 3) := by decide +kernel
theorem dX4_sign_8 : decode cX4_sign 8 = .ok (.if_icmp .ge 15, 3) := by decide +kernel
theorem dX4_sign_11 : decode cX4_sign 11 = .ok (.aload_n 0, 1) := by decide +kernel
theorem dX4_sign_12 : decode cX4_sign 12 = .ok (.getfield 13, 3) := by decide +kernel
theorem dX4_sign_15 : decode cX4_sign 15 = .ok (.aload_n 0, 1) := by decide +kernel
theorem dX4_sign_16 : decode cX4_sign 16 = .ok (.getfield 156, 3) := by decide +kernel
theorem dX4_sign_19 : decode cX4_sign 19 = .ok (.iaload, 1) := by decide +kernel
theorem dX4_sign_20 : decode cX4_sign 20 = .ok (.goto 4, 3) := by decide +kernel
theorem dX4_sign_23 : decode cX4_sign 23 = .ok (.iconst 0, 1) := by decide +kernel
theorem dX4_sign_24 : decode cX4_sign 24 = .ok (.ireturn, 1) := by decide +kernel
theorem dX4_takes_0 : decode cX4_takes 0 = .ok (.aload_n 0, 1) := by decide +kernel
theorem dX4_takes_1 : decode cX4_takes 1 = .ok (.invokevirtual 159, 3) := by decide +kernel
theorem dX4_takes_4 : decode cX4_takes 4 = .ok (.iload_n 1, 1) := by decide +kernel
theorem dX4_takes_5 : decode cX4_takes 5 = .ok (.if_icmp .ne 7, 3) := by decide +kernel
theorem dX4_takes_8 : decode cX4_takes 8 = .ok (.iconst 1, 1) := by decide +kernel
theorem dX4_takes_9 : decode cX4_takes 9 = .ok (.goto 4, 3) := by decide +kernel
theorem dX4_takes_12 : decode cX4_takes 12 = .ok (.iconst 0, 1) := by decide +kernel
theorem dX4_takes_13 : decode cX4_takes 13 = .ok (.istore_n 2, 1) := by decide +kernel
theorem dX4_takes_14 : decode cX4_takes 14 = .ok (.aload_n 0, 1) := by decide +kernel
theorem dX4_takes_15 : decode cX4_takes 15 = .ok (.dup, 1) := by decide +kernel
theorem dX4_takes_16 : decode cX4_takes 16 = .ok (.getfield 156, 3) := by decide +kernel
theorem dX4_takes_19 : decode cX4_takes 19 = .ok (.iload_n 2, 1) := by decide +kernel
theorem dX4_takes_20 : decode cX4_takes 20 = .ok (.ifCond .eq 7, 3) := by decide +kernel
theorem dX4_takes_23 : decode cX4_takes 23 = .ok (.iconst 1, 1) := by decide +kernel
theorem dX4_takes_24 : decode cX4_takes 24 = .ok (.goto 4, 3) := by decide +kernel
theorem dX4_takes_27 : decode cX4_takes 27 = .ok (.iconst 0, 1) := by decide +kernel
theorem dX4_takes_28 : decode cX4_takes 28 = .ok (.iadd, 1) := by decide +kernel
theorem dX4_takes_29 : decode cX4_takes 29 = .ok (.putfield 156, 3) := by decide +kernel
theorem dX4_takes_32 : decode cX4_takes 32 = .ok (.iload_n 2, 1) := by decide +kernel
theorem dX4_takes_33 : decode cX4_takes 33 = .ok (.ireturn, 1) := by decide +kernel
theorem dX4_figure_0 : decode cX4_figure 0 = .ok (.aload_n 0, 1) := by decide +kernel
theorem dX4_figure_1 : decode cX4_figure 1 = .ok (.invokevirtual 159, 3) := by decide +kernel
theorem dX4_figure_4 : decode cX4_figure 4 = .ok (.bipush 48, 2) := by decide +kernel
theorem dX4_figure_6 : decode cX4_figure 6 = .ok (.iload_n 1, 1) := by decide +kernel
theorem dX4_figure_7 : decode cX4_figure 7 = .ok (.iadd, 1) := by decide +kernel
theorem dX4_figure_8 : decode cX4_figure 8 = .ok (.bipush 48, 2) := by decide +kernel
theorem dX4_figure_10 : decode cX4_figure 10 = .ok (.iload_n 2, 1) := by decide +kernel
theorem dX4_figure_11 : decode cX4_figure 11 = .ok (.iadd, 1) := by decide +kernel
theorem dX4_figure_12 : decode cX4_figure 12 = .ok (.invokestatic 20, 3) := by decide +kernel
theorem dX4_figure_15 : decode cX4_figure 15 = .ok (.ifCond .eq 13, 3) := by decide +kernel
theorem dX4_figure_18 : decode cX4_figure 18 = .ok (.aload_n 0, 1) := by decide +kernel
theorem dX4_figure_19 : decode cX4_figure 19 = .ok (.invokevirtual 159, 3) := by decide +kernel
theorem dX4_figure_22 : decode cX4_figure 22 = .ok (.bipush 48, 2) := by decide +kernel
theorem dX4_figure_24 : decode cX4_figure 24 = .ok (.isub, 1) := by decide +kernel
theorem dX4_figure_25 : decode cX4_figure 25 = .ok (.goto 4, 3) := by decide +kernel
theorem dX4_figure_28 : decode cX4_figure 28 = .ok (.iconst (-1), 1) := by decide +kernel
theorem dX4_figure_29 : decode cX4_figure 29 = .ok (.istore_n 3, 1) := by decide +kernel
theorem dX4_figure_30 : decode cX4_figure 30 = .ok (.aload_n 0, 1) := by decide +kernel
theorem dX4_figure_31 : decode cX4_figure 31 = .ok (.dup, 1) := by decide +kernel
theorem dX4_figure_32 : decode cX4_figure 32 = .ok (.getfield 156, 3) := by decide +kernel
theorem dX4_figure_35 : decode cX4_figure 35 = .ok (.iload_n 3, 1) := by decide +kernel
theorem dX4_figure_36 : decode cX4_figure 36 = .ok (.iconst (-1), 1) := by decide +kernel
theorem dX4_figure_37 : decode cX4_figure 37 = .ok (.if_icmp .ne 7, 3) := by decide +kernel
theorem dX4_figure_40 : decode cX4_figure 40 = .ok (.iconst 0, 1) := by decide +kernel
theorem dX4_figure_41 : decode cX4_figure 41 = .ok (.goto 4, 3) := by decide +kernel
theorem dX4_figure_44 : decode cX4_figure 44 = .ok (.iconst 1, 1) := by decide +kernel
theorem dX4_figure_45 : decode cX4_figure 45 = .ok (.iadd, 1) := by decide +kernel
theorem dX4_figure_46 : decode cX4_figure 46 = .ok (.putfield 156, 3) := by decide +kernel
theorem dX4_figure_49 : decode cX4_figure 49 = .ok (.iload_n 3, 1) := by decide +kernel
theorem dX4_figure_50 : decode cX4_figure 50 = .ok (.ireturn, 1) := by decide +kernel
theorem dX4_readsInn_0 : decode cX4_readsInn 0 = .ok (.aload_n 0, 1) := by decide +kernel
theorem dX4_readsInn_1 : decode cX4_readsInn 1 = .ok (.invokevirtual 159, 3) := by decide +kernel
theorem dX4_readsInn_4 : decode cX4_readsInn 4 = .ok (.bipush 48, 2) := by decide +kernel
theorem dX4_readsInn_6 : decode cX4_readsInn 6 = .ok (.isub, 1) := by decide +kernel
theorem dX4_readsInn_7 : decode cX4_readsInn 7 = .ok (.iload_n 1, 1) := by decide +kernel
theorem dX4_readsInn_8 : decode cX4_readsInn 8 = .ok (.if_icmp .eq 14, 3) := by decide +kernel
theorem dX4_readsInn_11 : decode cX4_readsInn 11 = .ok (.aload_n 0, 1) := by decide +kernel
theorem dX4_readsInn_12 : decode cX4_readsInn 12 = .ok (.invokevirtual 159, 3) := by decide +kernel
theorem dX4_readsInn_15 : decode cX4_readsInn 15 = .ok (.bipush 48, 2) := by decide +kernel
theorem dX4_readsInn_17 : decode cX4_readsInn 17 = .ok (.isub, 1) := by decide +kernel
theorem dX4_readsInn_18 : decode cX4_readsInn 18 = .ok (.iload_n 2, 1) := by decide +kernel
theorem dX4_readsInn_19 : decode cX4_readsInn 19 = .ok (.if_icmp .ne 7, 3) := by decide +kernel
theorem dX4_readsInn_22 : decode cX4_readsInn 22 = .ok (.iconst (-1), 1) := by decide +kernel
theorem dX4_readsInn_23 : decode cX4_readsInn 23 = .ok (.goto 10, 3) := by decide +kernel
theorem dX4_readsInn_26 : decode cX4_readsInn 26 = .ok (.aload_n 0, 1) := by decide +kernel
theorem dX4_readsInn_27 : decode cX4_readsInn 27 = .ok (.iconst 0, 1) := by decide +kernel
theorem dX4_readsInn_28 : decode cX4_readsInn 28 = .ok (.bipush 7, 2) := by decide +kernel
theorem dX4_readsInn_30 : decode cX4_readsInn 30 = .ok (.invokevirtual 163, 3) := by decide +kernel
theorem dX4_readsInn_33 : decode cX4_readsInn 33 = .ok (.ireturn, 1) := by decide +kernel
theorem dX4_readsRoad_0 : decode cX4_readsRoad 0 = .ok (.aload_n 0, 1) := by decide +kernel
theorem dX4_readsRoad_1 : decode cX4_readsRoad 1 = .ok (.aload_n 0, 1) := by decide +kernel
theorem dX4_readsRoad_2 : decode cX4_readsRoad 2 = .ok (.iconst (-1), 1) := by decide +kernel
theorem dX4_readsRoad_3 : decode cX4_readsRoad 3 = .ok (.iconst (-1), 1) := by decide +kernel
theorem dX4_readsRoad_4 : decode cX4_readsRoad 4 = .ok (.invokevirtual 166, 3) := by decide +kernel
theorem dX4_readsRoad_7 : decode cX4_readsRoad 7 = .ok (.putfield 169, 3) := by decide +kernel
theorem dX4_readsRoad_10 : decode cX4_readsRoad 10 = .ok (.aload_n 0, 1) := by decide +kernel
theorem dX4_readsRoad_11 : decode cX4_readsRoad 11 = .ok (.aload_n 0, 1) := by decide +kernel
theorem dX4_readsRoad_12 : decode cX4_readsRoad 12 = .ok (.getfield 169, 3) := by decide +kernel
theorem dX4_readsRoad_15 : decode cX4_readsRoad 15 = .ok (.iconst (-1), 1) := by decide +kernel
theorem dX4_readsRoad_16 : decode cX4_readsRoad 16 = .ok (.if_icmp .ne 7, 3) := by decide +kernel
theorem dX4_readsRoad_19 : decode cX4_readsRoad 19 = .ok (.iconst (-1), 1) := by decide +kernel
theorem dX4_readsRoad_20 : decode cX4_readsRoad 20 = .ok (.goto 12, 3) := by decide +kernel
theorem dX4_readsRoad_23 : decode cX4_readsRoad 23 = .ok (.aload_n 0, 1) := by decide +kernel
theorem dX4_readsRoad_24 : decode cX4_readsRoad 24 = .ok (.aload_n 0, 1) := by decide +kernel
theorem dX4_readsRoad_25 : decode cX4_readsRoad 25 = .ok (.getfield 169, 3) := by decide +kernel
theorem dX4_readsRoad_28 : decode cX4_readsRoad 28 = .ok (.iconst (-1), 1) := by decide +kernel
theorem dX4_readsRoad_29 : decode cX4_readsRoad 29 = .ok (.invokevirtual 166, 3) := by decide +kernel
theorem dX4_readsRoad_32 : decode cX4_readsRoad 32 = .ok (.putfield 172, 3) := by decide +kernel
theorem dX4_readsRoad_35 : decode cX4_readsRoad 35 = .ok (.aload_n 0, 1) := by decide +kernel
theorem dX4_readsRoad_36 : decode cX4_readsRoad 36 = .ok (.aload_n 0, 1) := by decide +kernel
theorem dX4_readsRoad_37 : decode cX4_readsRoad 37 = .ok (.getfield 172, 3) := by decide +kernel
theorem dX4_readsRoad_40 : decode cX4_readsRoad 40 = .ok (.iconst (-1), 1) := by decide +kernel
theorem dX4_readsRoad_41 : decode cX4_readsRoad 41 = .ok (.if_icmp .ne 7, 3) := by decide +kernel
theorem dX4_readsRoad_44 : decode cX4_readsRoad 44 = .ok (.iconst (-1), 1) := by decide +kernel
theorem dX4_readsRoad_45 : decode cX4_readsRoad 45 = .ok (.goto 15, 3) := by decide +kernel
theorem dX4_readsRoad_48 : decode cX4_readsRoad 48 = .ok (.aload_n 0, 1) := by decide +kernel
theorem dX4_readsRoad_49 : decode cX4_readsRoad 49 = .ok (.aload_n 0, 1) := by decide +kernel
theorem dX4_readsRoad_50 : decode cX4_readsRoad 50 = .ok (.getfield 169, 3) := by decide +kernel
theorem dX4_readsRoad_53 : decode cX4_readsRoad 53 = .ok (.aload_n 0, 1) := by decide +kernel
theorem dX4_readsRoad_54 : decode cX4_readsRoad 54 = .ok (.getfield 172, 3) := by decide +kernel
theorem dX4_readsRoad_57 : decode cX4_readsRoad 57 = .ok (.invokevirtual 166, 3) := by decide +kernel
theorem dX4_readsRoad_60 : decode cX4_readsRoad 60 = .ok (.putfield 175, 3) := by decide +kernel
theorem dX4_readsRoad_63 : decode cX4_readsRoad 63 = .ok (.aload_n 0, 1) := by decide +kernel
theorem dX4_readsRoad_64 : decode cX4_readsRoad 64 = .ok (.aload_n 0, 1) := by decide +kernel
theorem dX4_readsRoad_65 : decode cX4_readsRoad 65 = .ok (.getfield 175, 3) := by decide +kernel
theorem dX4_readsRoad_68 : decode cX4_readsRoad 68 = .ok (.iconst (-1), 1) := by decide +kernel
theorem dX4_readsRoad_69 : decode cX4_readsRoad 69 = .ok (.if_icmp .ne 7, 3) := by decide +kernel
theorem dX4_readsRoad_72 : decode cX4_readsRoad 72 = .ok (.iconst (-1), 1) := by decide +kernel
theorem dX4_readsRoad_73 : decode cX4_readsRoad 73 = .ok (.goto 9, 3) := by decide +kernel
theorem dX4_readsRoad_76 : decode cX4_readsRoad 76 = .ok (.aload_n 0, 1) := by decide +kernel
theorem dX4_readsRoad_77 : decode cX4_readsRoad 77 = .ok (.iconst 0, 1) := by decide +kernel
theorem dX4_readsRoad_78 : decode cX4_readsRoad 78 = .ok (.iconst 3, 1) := by decide +kernel
theorem dX4_readsRoad_79 : decode cX4_readsRoad 79 = .ok (.invokevirtual 163, 3) := by decide +kernel
theorem dX4_readsRoad_82 : decode cX4_readsRoad 82 = .ok (.putfield 178, 3) := by decide +kernel
theorem dX4_readsRoad_85 : decode cX4_readsRoad 85 = .ok (.aload_n 0, 1) := by decide +kernel
theorem dX4_readsRoad_86 : decode cX4_readsRoad 86 = .ok (.getfield 178, 3) := by decide +kernel
theorem dX4_readsRoad_89 : decode cX4_readsRoad 89 = .ok (.iconst (-1), 1) := by decide +kernel
theorem dX4_readsRoad_90 : decode cX4_readsRoad 90 = .ok (.if_icmp .eq 7, 3) := by decide +kernel
theorem dX4_readsRoad_93 : decode cX4_readsRoad 93 = .ok (.iconst 1, 1) := by decide +kernel
theorem dX4_readsRoad_94 : decode cX4_readsRoad 94 = .ok (.goto 4, 3) := by decide +kernel
theorem dX4_readsRoad_97 : decode cX4_readsRoad 97 = .ok (.iconst 0, 1) := by decide +kernel
theorem dX4_readsRoad_98 : decode cX4_readsRoad 98 = .ok (.ireturn, 1) := by decide +kernel
theorem dX4_readsBody_0 : decode cX4_readsBody 0 = .ok (.aload_n 0, 1) := by decide +kernel
theorem dX4_readsBody_1 : decode cX4_readsBody 1 = .ok (.aload_n 0, 1) := by decide +kernel
theorem dX4_readsBody_2 : decode cX4_readsBody 2 = .ok (.bipush 61, 2) := by decide +kernel
theorem dX4_readsBody_4 : decode cX4_readsBody 4 = .ok (.invokevirtual 181, 3) := by decide +kernel
theorem dX4_readsBody_7 : decode cX4_readsBody 7 = .ok (.ifCond .eq 13, 3) := by decide +kernel
theorem dX4_readsBody_10 : decode cX4_readsBody 10 = .ok (.aload_n 0, 1) := by decide +kernel
theorem dX4_readsBody_11 : decode cX4_readsBody 11 = .ok (.iconst 0, 1) := by decide +kernel
theorem dX4_readsBody_12 : decode cX4_readsBody 12 = .ok (.bipush 9, 2) := by decide +kernel
theorem dX4_readsBody_14 : decode cX4_readsBody 14 = .ok (.invokevirtual 163, 3) := by decide +kernel
theorem dX4_readsBody_17 : decode cX4_readsBody 17 = .ok (.goto 4, 3) := by decide +kernel
theorem dX4_readsBody_20 : decode cX4_readsBody 20 = .ok (.iconst (-1), 1) := by decide +kernel
theorem dX4_readsBody_21 : decode cX4_readsBody 21 = .ok (.putfield 172, 3) := by decide +kernel
theorem dX4_readsBody_24 : decode cX4_readsBody 24 = .ok (.aload_n 0, 1) := by decide +kernel
theorem dX4_readsBody_25 : decode cX4_readsBody 25 = .ok (.getfield 172, 3) := by decide +kernel
theorem dX4_readsBody_28 : decode cX4_readsBody 28 = .ok (.ifCond .le 49, 3) := by decide +kernel
theorem dX4_readsBody_31 : decode cX4_readsBody 31 = .ok (.aload_n 0, 1) := by decide +kernel
theorem dX4_readsBody_32 : decode cX4_readsBody 32 = .ok (.getfield 172, 3) := by decide +kernel
theorem dX4_readsBody_35 : decode cX4_readsBody 35 = .ok (.sipush 1000, 3) := by decide +kernel
theorem dX4_readsBody_38 : decode cX4_readsBody 38 = .ok (.if_icmp .ge 39, 3) := by decide +kernel
theorem dX4_readsBody_41 : decode cX4_readsBody 41 = .ok (.aload_n 0, 1) := by decide +kernel
theorem dX4_readsBody_42 : decode cX4_readsBody 42 = .ok (.invokevirtual 159, 3) := by decide +kernel
theorem dX4_readsBody_45 : decode cX4_readsBody 45 = .ok (.bipush 48, 2) := by decide +kernel
theorem dX4_readsBody_47 : decode cX4_readsBody 47 = .ok (.bipush 57, 2) := by decide +kernel
theorem dX4_readsBody_49 : decode cX4_readsBody 49 = .ok (.invokestatic 20, 3) := by decide +kernel
theorem dX4_readsBody_52 : decode cX4_readsBody 52 = .ok (.ifCond .eq 25, 3) := by decide +kernel
theorem dX4_readsBody_55 : decode cX4_readsBody 55 = .ok (.aload_n 0, 1) := by decide +kernel
theorem dX4_readsBody_56 : decode cX4_readsBody 56 = .ok (.bipush 10, 2) := by decide +kernel
theorem dX4_readsBody_58 : decode cX4_readsBody 58 = .ok (.aload_n 0, 1) := by decide +kernel
theorem dX4_readsBody_59 : decode cX4_readsBody 59 = .ok (.getfield 172, 3) := by decide +kernel
theorem dX4_readsBody_62 : decode cX4_readsBody 62 = .ok (.imul, 1) := by decide +kernel
theorem dX4_readsBody_63 : decode cX4_readsBody 63 = .ok (.aload_n 0, 1) := by decide +kernel
theorem dX4_readsBody_64 : decode cX4_readsBody 64 = .ok (.iconst 0, 1) := by decide +kernel
theorem dX4_readsBody_65 : decode cX4_readsBody 65 = .ok (.bipush 9, 2) := by decide +kernel
theorem dX4_readsBody_67 : decode cX4_readsBody 67 = .ok (.invokevirtual 163, 3) := by decide +kernel
theorem dX4_readsBody_70 : decode cX4_readsBody 70 = .ok (.iadd, 1) := by decide +kernel
theorem dX4_readsBody_71 : decode cX4_readsBody 71 = .ok (.putfield 172, 3) := by decide +kernel
theorem dX4_readsBody_74 : decode cX4_readsBody 74 = .ok (.goto (-50), 3) := by decide +kernel
theorem dX4_readsBody_77 : decode cX4_readsBody 77 = .ok (.aload_n 0, 1) := by decide +kernel
theorem dX4_readsBody_78 : decode cX4_readsBody 78 = .ok (.getfield 172, 3) := by decide +kernel
theorem dX4_readsBody_81 : decode cX4_readsBody 81 = .ok (.iconst (-1), 1) := by decide +kernel
theorem dX4_readsBody_82 : decode cX4_readsBody 82 = .ok (.if_icmp .eq 7, 3) := by decide +kernel
theorem dX4_readsBody_85 : decode cX4_readsBody 85 = .ok (.iconst 1, 1) := by decide +kernel
theorem dX4_readsBody_86 : decode cX4_readsBody 86 = .ok (.goto 4, 3) := by decide +kernel
theorem dX4_readsBody_89 : decode cX4_readsBody 89 = .ok (.iconst 0, 1) := by decide +kernel
theorem dX4_readsBody_90 : decode cX4_readsBody 90 = .ok (.ireturn, 1) := by decide +kernel
theorem dX4_readsOrder_0 : decode cX4_readsOrder 0 = .ok (.aload_n 0, 1) := by decide +kernel
theorem dX4_readsOrder_1 : decode cX4_readsOrder 1 = .ok (.aload_n 0, 1) := by decide +kernel
theorem dX4_readsOrder_2 : decode cX4_readsOrder 2 = .ok (.invokevirtual 159, 3) := by decide +kernel
theorem dX4_readsOrder_5 : decode cX4_readsOrder 5 = .ok (.putfield 184, 3) := by decide +kernel
theorem dX4_readsOrder_8 : decode cX4_readsOrder 8 = .ok (.aload_n 0, 1) := by decide +kernel
theorem dX4_readsOrder_9 : decode cX4_readsOrder 9 = .ok (.bipush 114, 2) := by decide +kernel
theorem dX4_readsOrder_11 : decode cX4_readsOrder 11 = .ok (.invokevirtual 181, 3) := by decide +kernel
theorem dX4_readsOrder_14 : decode cX4_readsOrder 14 = .ok (.ifCond .eq 8, 3) := by decide +kernel
theorem dX4_readsOrder_17 : decode cX4_readsOrder 17 = .ok (.aload_n 0, 1) := by decide +kernel
theorem dX4_readsOrder_18 : decode cX4_readsOrder 18 = .ok (.invokevirtual 187, 3) := by decide +kernel
theorem dX4_readsOrder_21 : decode cX4_readsOrder 21 = .ok (.ireturn, 1) := by decide +kernel
theorem dX4_readsOrder_22 : decode cX4_readsOrder 22 = .ok (.aload_n 0, 1) := by decide +kernel
theorem dX4_readsOrder_23 : decode cX4_readsOrder 23 = .ok (.bipush 115, 2) := by decide +kernel
theorem dX4_readsOrder_25 : decode cX4_readsOrder 25 = .ok (.invokevirtual 181, 3) := by decide +kernel
theorem dX4_readsOrder_28 : decode cX4_readsOrder 28 = .ok (.ifCond .ne 12, 3) := by decide +kernel
theorem dX4_readsOrder_31 : decode cX4_readsOrder 31 = .ok (.aload_n 0, 1) := by decide +kernel
theorem dX4_readsOrder_32 : decode cX4_readsOrder 32 = .ok (.bipush 97, 2) := by decide +kernel
theorem dX4_readsOrder_34 : decode cX4_readsOrder 34 = .ok (.invokevirtual 181, 3) := by decide +kernel
theorem dX4_readsOrder_37 : decode cX4_readsOrder 37 = .ok (.ifCond .eq 47, 3) := by decide +kernel
theorem dX4_readsOrder_40 : decode cX4_readsOrder 40 = .ok (.aload_n 0, 1) := by decide +kernel
theorem dX4_readsOrder_41 : decode cX4_readsOrder 41 = .ok (.aload_n 0, 1) := by decide +kernel
theorem dX4_readsOrder_42 : decode cX4_readsOrder 42 = .ok (.iconst 0, 1) := by decide +kernel
theorem dX4_readsOrder_43 : decode cX4_readsOrder 43 = .ok (.aload_n 0, 1) := by decide +kernel
theorem dX4_readsOrder_44 : decode cX4_readsOrder 44 = .ok (.getfield 184, 3) := by decide +kernel
theorem dX4_readsOrder_47 : decode cX4_readsOrder 47 = .ok (.bipush 115, 2) := by decide +kernel
theorem dX4_readsOrder_49 : decode cX4_readsOrder 49 = .ok (.if_icmp .ne 7, 3) := by decide +kernel
theorem dX4_readsOrder_52 : decode cX4_readsOrder 52 = .ok (.iconst 5, 1) := by decide +kernel
theorem dX4_readsOrder_53 : decode cX4_readsOrder 53 = .ok (.goto 4, 3) := by decide +kernel
theorem dX4_readsOrder_56 : decode cX4_readsOrder 56 = .ok (.iconst 3, 1) := by decide +kernel
theorem dX4_readsOrder_57 : decode cX4_readsOrder 57 = .ok (.invokevirtual 163, 3) := by decide +kernel
theorem dX4_readsOrder_60 : decode cX4_readsOrder 60 = .ok (.putfield 169, 3) := by decide +kernel
theorem dX4_readsOrder_63 : decode cX4_readsOrder 63 = .ok (.aload_n 0, 1) := by decide +kernel
theorem dX4_readsOrder_64 : decode cX4_readsOrder 64 = .ok (.getfield 169, 3) := by decide +kernel
theorem dX4_readsOrder_67 : decode cX4_readsOrder 67 = .ok (.iconst (-1), 1) := by decide +kernel
theorem dX4_readsOrder_68 : decode cX4_readsOrder 68 = .ok (.if_icmp .eq 14, 3) := by decide +kernel
theorem dX4_readsOrder_71 : decode cX4_readsOrder 71 = .ok (.aload_n 0, 1) := by decide +kernel
theorem dX4_readsOrder_72 : decode cX4_readsOrder 72 = .ok (.invokevirtual 190, 3) := by decide +kernel
theorem dX4_readsOrder_75 : decode cX4_readsOrder 75 = .ok (.ifCond .eq 7, 3) := by decide +kernel
theorem dX4_readsOrder_78 : decode cX4_readsOrder 78 = .ok (.iconst 1, 1) := by decide +kernel
theorem dX4_readsOrder_79 : decode cX4_readsOrder 79 = .ok (.goto 4, 3) := by decide +kernel
theorem dX4_readsOrder_82 : decode cX4_readsOrder 82 = .ok (.iconst 0, 1) := by decide +kernel
theorem dX4_readsOrder_83 : decode cX4_readsOrder 83 = .ok (.ireturn, 1) := by decide +kernel
theorem dX4_readsOrder_84 : decode cX4_readsOrder 84 = .ok (.aload_n 0, 1) := by decide +kernel
theorem dX4_readsOrder_85 : decode cX4_readsOrder 85 = .ok (.bipush 116, 2) := by decide +kernel
theorem dX4_readsOrder_87 : decode cX4_readsOrder 87 = .ok (.invokevirtual 181, 3) := by decide +kernel
theorem dX4_readsOrder_90 : decode cX4_readsOrder 90 = .ok (.ifCond .eq 28, 3) := by decide +kernel
theorem dX4_readsOrder_93 : decode cX4_readsOrder 93 = .ok (.aload_n 0, 1) := by decide +kernel
theorem dX4_readsOrder_94 : decode cX4_readsOrder 94 = .ok (.aload_n 0, 1) := by decide +kernel
theorem dX4_readsOrder_95 : decode cX4_readsOrder 95 = .ok (.iconst 1, 1) := by decide +kernel
theorem dX4_readsOrder_96 : decode cX4_readsOrder 96 = .ok (.bipush 9, 2) := by decide +kernel
theorem dX4_readsOrder_98 : decode cX4_readsOrder 98 = .ok (.invokevirtual 163, 3) := by decide +kernel
theorem dX4_readsOrder_101 : decode cX4_readsOrder 101 = .ok (.putfield 169, 3) := by decide +kernel
theorem dX4_readsOrder_104 : decode cX4_readsOrder 104 = .ok (.aload_n 0, 1) := by decide +kernel
theorem dX4_readsOrder_105 : decode cX4_readsOrder 105 = .ok (.getfield 169, 3) := by decide +kernel
theorem dX4_readsOrder_108 : decode cX4_readsOrder 108 = .ok (.iconst (-1), 1) := by decide +kernel
theorem dX4_readsOrder_109 : decode cX4_readsOrder 109 = .ok (.if_icmp .eq 7, 3) := by decide +kernel
theorem dX4_readsOrder_112 : decode cX4_readsOrder 112 = .ok (.iconst 1, 1) := by decide +kernel
theorem dX4_readsOrder_113 : decode cX4_readsOrder 113 = .ok (.goto 4, 3) := by decide +kernel
theorem dX4_readsOrder_116 : decode cX4_readsOrder 116 = .ok (.iconst 0, 1) := by decide +kernel
theorem dX4_readsOrder_117 : decode cX4_readsOrder 117 = .ok (.ireturn, 1) := by decide +kernel
theorem dX4_readsOrder_118 : decode cX4_readsOrder 118 = .ok (.aload_n 0, 1) := by decide +kernel
theorem dX4_readsOrder_119 : decode cX4_readsOrder 119 = .ok (.aload_n 0, 1) := by decide +kernel
theorem dX4_readsOrder_120 : decode cX4_readsOrder 120 = .ok (.bipush 99, 2) := by decide +kernel
theorem dX4_readsOrder_122 : decode cX4_readsOrder 122 = .ok (.invokevirtual 181, 3) := by decide +kernel
theorem dX4_readsOrder_125 : decode cX4_readsOrder 125 = .ok (.ifCond .ne 12, 3) := by decide +kernel
theorem dX4_readsOrder_128 : decode cX4_readsOrder 128 = .ok (.aload_n 0, 1) := by decide +kernel
theorem dX4_readsOrder_129 : decode cX4_readsOrder 129 = .ok (.bipush 111, 2) := by decide +kernel
theorem dX4_readsOrder_131 : decode cX4_readsOrder 131 = .ok (.invokevirtual 181, 3) := by decide +kernel
theorem dX4_readsOrder_134 : decode cX4_readsOrder 134 = .ok (.ifCond .eq 13, 3) := by decide +kernel
theorem dX4_readsOrder_137 : decode cX4_readsOrder 137 = .ok (.aload_n 0, 1) := by decide +kernel
theorem dX4_readsOrder_138 : decode cX4_readsOrder 138 = .ok (.iconst 0, 1) := by decide +kernel
theorem dX4_readsOrder_139 : decode cX4_readsOrder 139 = .ok (.bipush 7, 2) := by decide +kernel
theorem dX4_readsOrder_141 : decode cX4_readsOrder 141 = .ok (.invokevirtual 163, 3) := by decide +kernel
theorem dX4_readsOrder_144 : decode cX4_readsOrder 144 = .ok (.goto 4, 3) := by decide +kernel
theorem dX4_readsOrder_147 : decode cX4_readsOrder 147 = .ok (.iconst (-1), 1) := by decide +kernel
theorem dX4_readsOrder_148 : decode cX4_readsOrder 148 = .ok (.putfield 169, 3) := by decide +kernel
theorem dX4_readsOrder_151 : decode cX4_readsOrder 151 = .ok (.aload_n 0, 1) := by decide +kernel
theorem dX4_readsOrder_152 : decode cX4_readsOrder 152 = .ok (.getfield 169, 3) := by decide +kernel
theorem dX4_readsOrder_155 : decode cX4_readsOrder 155 = .ok (.iconst (-1), 1) := by decide +kernel
theorem dX4_readsOrder_156 : decode cX4_readsOrder 156 = .ok (.if_icmp .eq 7, 3) := by decide +kernel
theorem dX4_readsOrder_159 : decode cX4_readsOrder 159 = .ok (.iconst 1, 1) := by decide +kernel
theorem dX4_readsOrder_160 : decode cX4_readsOrder 160 = .ok (.goto 4, 3) := by decide +kernel
theorem dX4_readsOrder_163 : decode cX4_readsOrder 163 = .ok (.iconst 0, 1) := by decide +kernel
theorem dX4_readsOrder_164 : decode cX4_readsOrder 164 = .ok (.ireturn, 1) := by decide +kernel
theorem dX4_areOrders_0 : decode cX4_areOrders 0 = .ok (.aload_n 0, 1) := by decide +kernel
theorem dX4_areOrders_1 : decode cX4_areOrders 1 = .ok (.iconst 0, 1) := by decide +kernel
theorem dX4_areOrders_2 : decode cX4_areOrders 2 = .ok (.putfield 156, 3) := by decide +kernel
theorem dX4_areOrders_5 : decode cX4_areOrders 5 = .ok (.aload_n 0, 1) := by decide +kernel
theorem dX4_areOrders_6 : decode cX4_areOrders 6 = .ok (.invokevirtual 193, 3) := by decide +kernel
theorem dX4_areOrders_9 : decode cX4_areOrders 9 = .ok (.ifCond .eq 27, 3) := by decide +kernel
theorem dX4_areOrders_12 : decode cX4_areOrders 12 = .ok (.aload_n 0, 1) := by decide +kernel
theorem dX4_areOrders_13 : decode cX4_areOrders 13 = .ok (.getfield 156, 3) := by decide +kernel
theorem dX4_areOrders_16 : decode cX4_areOrders 16 = .ok (.aload_n 0, 1) := by decide +kernel
theorem dX4_areOrders_17 : decode cX4_areOrders 17 = .ok (.getfield 153, 3) := by decide +kernel
theorem dX4_areOrders_20 : decode cX4_areOrders 20 = .ok (.if_icmp .ne 5, 3) := by decide +kernel
theorem dX4_areOrders_23 : decode cX4_areOrders 23 = .ok (.iconst 1, 1) := by decide +kernel
theorem dX4_areOrders_24 : decode cX4_areOrders 24 = .ok (.ireturn, 1) := by decide +kernel
theorem dX4_areOrders_25 : decode cX4_areOrders 25 = .ok (.aload_n 0, 1) := by decide +kernel
theorem dX4_areOrders_26 : decode cX4_areOrders 26 = .ok (.bipush 59, 2) := by decide +kernel
theorem dX4_areOrders_28 : decode cX4_areOrders 28 = .ok (.invokevirtual 181, 3) := by decide +kernel
theorem dX4_areOrders_31 : decode cX4_areOrders 31 = .ok (.ifCond .ne (-26), 3) := by decide +kernel
theorem dX4_areOrders_34 : decode cX4_areOrders 34 = .ok (.iconst 0, 1) := by decide +kernel
theorem dX4_areOrders_35 : decode cX4_areOrders 35 = .ok (.ireturn, 1) := by decide +kernel
theorem dX4_areOrders_36 : decode cX4_areOrders 36 = .ok (.iconst 0, 1) := by decide +kernel
theorem dX4_areOrders_37 : decode cX4_areOrders 37 = .ok (.ireturn, 1) := by decide +kernel
theorem dX4_firstError_0 : decode cX4_firstError 0 = .ok (.aload_n 0, 1) := by decide +kernel
theorem dX4_firstError_1 : decode cX4_firstError 1 = .ok (.iconst 0, 1) := by decide +kernel
theorem dX4_firstError_2 : decode cX4_firstError 2 = .ok (.putfield 16, 3) := by decide +kernel
theorem dX4_firstError_5 : decode cX4_firstError 5 = .ok (.aload_n 0, 1) := by decide +kernel
theorem dX4_firstError_6 : decode cX4_firstError 6 = .ok (.invokevirtual 196, 3) := by decide +kernel
theorem dX4_firstError_9 : decode cX4_firstError 9 = .ok (.pop, 1) := by decide +kernel
theorem dX4_firstError_10 : decode cX4_firstError 10 = .ok (.aload_n 0, 1) := by decide +kernel
theorem dX4_firstError_11 : decode cX4_firstError 11 = .ok (.getfield 156, 3) := by decide +kernel
theorem dX4_firstError_14 : decode cX4_firstError 14 = .ok (.ireturn, 1) := by decide +kernel
theorem dX4_isDone_0 : decode cX4_isDone 0 = .ok (.aload_n 0, 1) := by decide +kernel
theorem dX4_isDone_1 : decode cX4_isDone 1 = .ok (.getfield 184, 3) := by decide +kernel
theorem dX4_isDone_4 : decode cX4_isDone 4 = .ok (.lookupswitch 180 #[(97, 131), (114, 44), (115, 92), (116, 163)], 44) := by decide +kernel
theorem dX4_isDone_48 : decode cX4_isDone 48 = .ok (.aload_n 0, 1) := by decide +kernel
theorem dX4_isDone_49 : decode cX4_isDone 49 = .ok (.aload_n 0, 1) := by decide +kernel
theorem dX4_isDone_50 : decode cX4_isDone 50 = .ok (.getfield 169, 3) := by decide +kernel
theorem dX4_isDone_53 : decode cX4_isDone 53 = .ok (.aload_n 0, 1) := by decide +kernel
theorem dX4_isDone_54 : decode cX4_isDone 54 = .ok (.getfield 172, 3) := by decide +kernel
theorem dX4_isDone_57 : decode cX4_isDone 57 = .ok (.aload_n 0, 1) := by decide +kernel
theorem dX4_isDone_58 : decode cX4_isDone 58 = .ok (.getfield 175, 3) := by decide +kernel
theorem dX4_isDone_61 : decode cX4_isDone 61 = .ok (.invokevirtual 98, 3) := by decide +kernel
theorem dX4_isDone_64 : decode cX4_isDone 64 = .ok (.ifCond .eq 30, 3) := by decide +kernel
theorem dX4_isDone_67 : decode cX4_isDone 67 = .ok (.aload_n 0, 1) := by decide +kernel
theorem dX4_isDone_68 : decode cX4_isDone 68 = .ok (.aload_n 0, 1) := by decide +kernel
theorem dX4_isDone_69 : decode cX4_isDone 69 = .ok (.getfield 169, 3) := by decide +kernel
theorem dX4_isDone_72 : decode cX4_isDone 72 = .ok (.aload_n 0, 1) := by decide +kernel
theorem dX4_isDone_73 : decode cX4_isDone 73 = .ok (.getfield 172, 3) := by decide +kernel
theorem dX4_isDone_76 : decode cX4_isDone 76 = .ok (.aload_n 0, 1) := by decide +kernel
theorem dX4_isDone_77 : decode cX4_isDone 77 = .ok (.getfield 175, 3) := by decide +kernel
theorem dX4_isDone_80 : decode cX4_isDone 80 = .ok (.aload_n 0, 1) := by decide +kernel
theorem dX4_isDone_81 : decode cX4_isDone 81 = .ok (.getfield 178, 3) := by decide +kernel
theorem dX4_isDone_84 : decode cX4_isDone 84 = .ok (.invokevirtual 101, 3) := by decide +kernel
theorem dX4_isDone_87 : decode cX4_isDone 87 = .ok (.ifCond .lt 7, 3) := by decide +kernel
theorem dX4_isDone_90 : decode cX4_isDone 90 = .ok (.iconst 1, 1) := by decide +kernel
theorem dX4_isDone_91 : decode cX4_isDone 91 = .ok (.goto 4, 3) := by decide +kernel
theorem dX4_isDone_94 : decode cX4_isDone 94 = .ok (.iconst 0, 1) := by decide +kernel
theorem dX4_isDone_95 : decode cX4_isDone 95 = .ok (.ireturn, 1) := by decide +kernel
theorem dX4_isDone_96 : decode cX4_isDone 96 = .ok (.aload_n 0, 1) := by decide +kernel
theorem dX4_isDone_97 : decode cX4_isDone 97 = .ok (.aload_n 0, 1) := by decide +kernel
theorem dX4_isDone_98 : decode cX4_isDone 98 = .ok (.getfield 169, 3) := by decide +kernel
theorem dX4_isDone_101 : decode cX4_isDone 101 = .ok (.invokevirtual 110, 3) := by decide +kernel
theorem dX4_isDone_104 : decode cX4_isDone 104 = .ok (.ifCond .eq 29, 3) := by decide +kernel
theorem dX4_isDone_107 : decode cX4_isDone 107 = .ok (.aload_n 0, 1) := by decide +kernel
theorem dX4_isDone_108 : decode cX4_isDone 108 = .ok (.invokevirtual 69, 3) := by decide +kernel
theorem dX4_isDone_111 : decode cX4_isDone 111 = .ok (.ifCond .eq 22, 3) := by decide +kernel
theorem dX4_isDone_114 : decode cX4_isDone 114 = .ok (.aload_n 0, 1) := by decide +kernel
theorem dX4_isDone_115 : decode cX4_isDone 115 = .ok (.aload_n 0, 1) := by decide +kernel
theorem dX4_isDone_116 : decode cX4_isDone 116 = .ok (.getfield 169, 3) := by decide +kernel
theorem dX4_isDone_119 : decode cX4_isDone 119 = .ok (.aload_n 0, 1) := by decide +kernel
theorem dX4_isDone_120 : decode cX4_isDone 120 = .ok (.getfield 172, 3) := by decide +kernel
theorem dX4_isDone_123 : decode cX4_isDone 123 = .ok (.invokevirtual 126, 3) := by decide +kernel
theorem dX4_isDone_126 : decode cX4_isDone 126 = .ok (.ifCond .lt 7, 3) := by decide +kernel
theorem dX4_isDone_129 : decode cX4_isDone 129 = .ok (.iconst 1, 1) := by decide +kernel
theorem dX4_isDone_130 : decode cX4_isDone 130 = .ok (.goto 4, 3) := by decide +kernel
theorem dX4_isDone_133 : decode cX4_isDone 133 = .ok (.iconst 0, 1) := by decide +kernel
theorem dX4_isDone_134 : decode cX4_isDone 134 = .ok (.ireturn, 1) := by decide +kernel
theorem dX4_isDone_135 : decode cX4_isDone 135 = .ok (.aload_n 0, 1) := by decide +kernel
theorem dX4_isDone_136 : decode cX4_isDone 136 = .ok (.aload_n 0, 1) := by decide +kernel
theorem dX4_isDone_137 : decode cX4_isDone 137 = .ok (.getfield 169, 3) := by decide +kernel
theorem dX4_isDone_140 : decode cX4_isDone 140 = .ok (.invokevirtual 129, 3) := by decide +kernel
theorem dX4_isDone_143 : decode cX4_isDone 143 = .ok (.ifCond .eq 22, 3) := by decide +kernel
theorem dX4_isDone_146 : decode cX4_isDone 146 = .ok (.aload_n 0, 1) := by decide +kernel
theorem dX4_isDone_147 : decode cX4_isDone 147 = .ok (.aload_n 0, 1) := by decide +kernel
theorem dX4_isDone_148 : decode cX4_isDone 148 = .ok (.getfield 169, 3) := by decide +kernel
theorem dX4_isDone_151 : decode cX4_isDone 151 = .ok (.aload_n 0, 1) := by decide +kernel
theorem dX4_isDone_152 : decode cX4_isDone 152 = .ok (.getfield 172, 3) := by decide +kernel
theorem dX4_isDone_155 : decode cX4_isDone 155 = .ok (.invokevirtual 132, 3) := by decide +kernel
theorem dX4_isDone_158 : decode cX4_isDone 158 = .ok (.ifCond .lt 7, 3) := by decide +kernel
theorem dX4_isDone_161 : decode cX4_isDone 161 = .ok (.iconst 1, 1) := by decide +kernel
theorem dX4_isDone_162 : decode cX4_isDone 162 = .ok (.goto 4, 3) := by decide +kernel
theorem dX4_isDone_165 : decode cX4_isDone 165 = .ok (.iconst 0, 1) := by decide +kernel
theorem dX4_isDone_166 : decode cX4_isDone 166 = .ok (.ireturn, 1) := by decide +kernel
theorem dX4_isDone_167 : decode cX4_isDone 167 = .ok (.aload_n 0, 1) := by decide +kernel
theorem dX4_isDone_168 : decode cX4_isDone 168 = .ok (.aload_n 0, 1) := by decide +kernel
theorem dX4_isDone_169 : decode cX4_isDone 169 = .ok (.getfield 169, 3) := by decide +kernel
theorem dX4_isDone_172 : decode cX4_isDone 172 = .ok (.invokevirtual 135, 3) := by decide +kernel
theorem dX4_isDone_175 : decode cX4_isDone 175 = .ok (.ifCond .lt 7, 3) := by decide +kernel
theorem dX4_isDone_178 : decode cX4_isDone 178 = .ok (.iconst 1, 1) := by decide +kernel
theorem dX4_isDone_179 : decode cX4_isDone 179 = .ok (.goto 4, 3) := by decide +kernel
theorem dX4_isDone_182 : decode cX4_isDone 182 = .ok (.iconst 0, 1) := by decide +kernel
theorem dX4_isDone_183 : decode cX4_isDone 183 = .ok (.ireturn, 1) := by decide +kernel
theorem dX4_isDone_184 : decode cX4_isDone 184 = .ok (.aload_n 0, 1) := by decide +kernel
theorem dX4_isDone_185 : decode cX4_isDone 185 = .ok (.getfield 7, 3) := by decide +kernel
theorem dX4_isDone_188 : decode cX4_isDone 188 = .ok (.bipush 8, 2) := by decide +kernel
theorem dX4_isDone_190 : decode cX4_isDone 190 = .ok (.aload_n 0, 1) := by decide +kernel
theorem dX4_isDone_191 : decode cX4_isDone 191 = .ok (.getfield 169, 3) := by decide +kernel
theorem dX4_isDone_194 : decode cX4_isDone 194 = .ok (.iadd, 1) := by decide +kernel
theorem dX4_isDone_195 : decode cX4_isDone 195 = .ok (.aload_n 0, 1) := by decide +kernel
theorem dX4_isDone_196 : decode cX4_isDone 196 = .ok (.getfield 184, 3) := by decide +kernel
theorem dX4_isDone_199 : decode cX4_isDone 199 = .ok (.bipush 111, 2) := by decide +kernel
theorem dX4_isDone_201 : decode cX4_isDone 201 = .ok (.if_icmp .ne 7, 3) := by decide +kernel
theorem dX4_isDone_204 : decode cX4_isDone 204 = .ok (.iconst 1, 1) := by decide +kernel
theorem dX4_isDone_205 : decode cX4_isDone 205 = .ok (.goto 4, 3) := by decide +kernel
theorem dX4_isDone_208 : decode cX4_isDone 208 = .ok (.iconst 0, 1) := by decide +kernel
theorem dX4_isDone_209 : decode cX4_isDone 209 = .ok (.iastore, 1) := by decide +kernel
theorem dX4_isDone_210 : decode cX4_isDone 210 = .ok (.iconst 1, 1) := by decide +kernel
theorem dX4_isDone_211 : decode cX4_isDone 211 = .ok (.ireturn, 1) := by decide +kernel
theorem dX4_run_0 : decode cX4_run 0 = .ok (.aload_n 0, 1) := by decide +kernel
theorem dX4_run_1 : decode cX4_run 1 = .ok (.aload_n 0, 1) := by decide +kernel
theorem dX4_run_2 : decode cX4_run 2 = .ok (.invokevirtual 196, 3) := by decide +kernel
theorem dX4_run_5 : decode cX4_run 5 = .ok (.ifCond .eq 7, 3) := by decide +kernel
theorem dX4_run_8 : decode cX4_run 8 = .ok (.iconst 0, 1) := by decide +kernel
theorem dX4_run_9 : decode cX4_run 9 = .ok (.goto 4, 3) := by decide +kernel
theorem dX4_run_12 : decode cX4_run 12 = .ok (.iconst 1, 1) := by decide +kernel
theorem dX4_run_13 : decode cX4_run 13 = .ok (.invokevirtual 86, 3) := by decide +kernel
theorem dX4_run_16 : decode cX4_run 16 = .ok (.ifCond .ne 5, 3) := by decide +kernel
theorem dX4_run_19 : decode cX4_run 19 = .ok (.iconst 0, 1) := by decide +kernel
theorem dX4_run_20 : decode cX4_run 20 = .ok (.ireturn, 1) := by decide +kernel
theorem dX4_run_21 : decode cX4_run 21 = .ok (.aload_n 0, 1) := by decide +kernel
theorem dX4_run_22 : decode cX4_run 22 = .ok (.invokevirtual 80, 3) := by decide +kernel
theorem dX4_run_25 : decode cX4_run 25 = .ok (.aload_n 0, 1) := by decide +kernel
theorem dX4_run_26 : decode cX4_run 26 = .ok (.iconst 0, 1) := by decide +kernel
theorem dX4_run_27 : decode cX4_run 27 = .ok (.putfield 156, 3) := by decide +kernel
theorem dX4_run_30 : decode cX4_run 30 = .ok (.iconst 0, 1) := by decide +kernel
theorem dX4_run_31 : decode cX4_run 31 = .ok (.istore_n 1, 1) := by decide +kernel
theorem dX4_run_32 : decode cX4_run 32 = .ok (.aload_n 0, 1) := by decide +kernel
theorem dX4_run_33 : decode cX4_run 33 = .ok (.invokevirtual 193, 3) := by decide +kernel
theorem dX4_run_36 : decode cX4_run 36 = .ok (.ifCond .eq 23, 3) := by decide +kernel
theorem dX4_run_39 : decode cX4_run 39 = .ok (.aload_n 0, 1) := by decide +kernel
theorem dX4_run_40 : decode cX4_run 40 = .ok (.invokevirtual 199, 3) := by decide +kernel
theorem dX4_run_43 : decode cX4_run 43 = .ok (.ifCond .eq 16, 3) := by decide +kernel
theorem dX4_run_46 : decode cX4_run 46 = .ok (.iinc 1 1, 3) := by decide +kernel
theorem dX4_run_49 : decode cX4_run 49 = .ok (.aload_n 0, 1) := by decide +kernel
theorem dX4_run_50 : decode cX4_run 50 = .ok (.bipush 59, 2) := by decide +kernel
theorem dX4_run_52 : decode cX4_run 52 = .ok (.invokevirtual 181, 3) := by decide +kernel
theorem dX4_run_55 : decode cX4_run 55 = .ok (.pop, 1) := by decide +kernel
theorem dX4_run_56 : decode cX4_run 56 = .ok (.goto (-24), 3) := by decide +kernel
theorem dX4_run_59 : decode cX4_run 59 = .ok (.aload_n 0, 1) := by decide +kernel
theorem dX4_run_60 : decode cX4_run 60 = .ok (.iconst 0, 1) := by decide +kernel
theorem dX4_run_61 : decode cX4_run 61 = .ok (.putfield 153, 3) := by decide +kernel
theorem dX4_run_64 : decode cX4_run 64 = .ok (.iload_n 1, 1) := by decide +kernel
theorem dX4_run_65 : decode cX4_run 65 = .ok (.ireturn, 1) := by decide +kernel
theorem dX4_undo_0 : decode cX4_undo 0 = .ok (.aload_n 0, 1) := by decide +kernel
theorem dX4_undo_1 : decode cX4_undo 1 = .ok (.aload_n 0, 1) := by decide +kernel
theorem dX4_undo_2 : decode cX4_undo 2 = .ok (.getfield 73, 3) := by decide +kernel
theorem dX4_undo_5 : decode cX4_undo 5 = .ok (.ifCond .le 7, 3) := by decide +kernel
theorem dX4_undo_8 : decode cX4_undo 8 = .ok (.iconst 0, 1) := by decide +kernel
theorem dX4_undo_9 : decode cX4_undo 9 = .ok (.goto 4, 3) := by decide +kernel
theorem dX4_undo_12 : decode cX4_undo 12 = .ok (.iconst 1, 1) := by decide +kernel
theorem dX4_undo_13 : decode cX4_undo 13 = .ok (.invokevirtual 86, 3) := by decide +kernel
theorem dX4_undo_16 : decode cX4_undo 16 = .ok (.ifCond .ne 5, 3) := by decide +kernel
theorem dX4_undo_19 : decode cX4_undo 19 = .ok (.iconst 0, 1) := by decide +kernel
theorem dX4_undo_20 : decode cX4_undo 20 = .ok (.ireturn, 1) := by decide +kernel
theorem dX4_undo_21 : decode cX4_undo 21 = .ok (.aload_n 0, 1) := by decide +kernel
theorem dX4_undo_22 : decode cX4_undo 22 = .ok (.aload_n 0, 1) := by decide +kernel
theorem dX4_undo_23 : decode cX4_undo 23 = .ok (.getfield 73, 3) := by decide +kernel
theorem dX4_undo_26 : decode cX4_undo 26 = .ok (.iconst 0, 1) := by decide +kernel
theorem dX4_undo_27 : decode cX4_undo 27 = .ok (.invokevirtual 76, 3) := by decide +kernel
theorem dX4_undo_30 : decode cX4_undo 30 = .ok (.aload_n 0, 1) := by decide +kernel
theorem dX4_undo_31 : decode cX4_undo 31 = .ok (.dup, 1) := by decide +kernel
theorem dX4_undo_32 : decode cX4_undo 32 = .ok (.getfield 73, 3) := by decide +kernel
theorem dX4_undo_35 : decode cX4_undo 35 = .ok (.iconst 1, 1) := by decide +kernel
theorem dX4_undo_36 : decode cX4_undo 36 = .ok (.isub, 1) := by decide +kernel
theorem dX4_undo_37 : decode cX4_undo 37 = .ok (.putfield 73, 3) := by decide +kernel
theorem dX4_undo_40 : decode cX4_undo 40 = .ok (.aload_n 0, 1) := by decide +kernel
theorem dX4_undo_41 : decode cX4_undo 41 = .ok (.getfield 73, 3) := by decide +kernel
theorem dX4_undo_44 : decode cX4_undo 44 = .ok (.ireturn, 1) := by decide +kernel
theorem dX4_savedStates_0 : decode cX4_savedStates 0 = .ok (.aload_n 0, 1) := by decide +kernel
theorem dX4_savedStates_1 : decode cX4_savedStates 1 = .ok (.aload_n 0, 1) := by decide +kernel
theorem dX4_savedStates_2 : decode cX4_savedStates 2 = .ok (.getfield 73, 3) := by decide +kernel
theorem dX4_savedStates_5 : decode cX4_savedStates 5 = .ok (.invokevirtual 107, 3) := by decide +kernel
theorem dX4_savedStates_8 : decode cX4_savedStates 8 = .ok (.ireturn, 1) := by decide +kernel
theorem dX4_mix_0 : decode cX4_mix 0 = .ok (.aload_n 0, 1) := by decide +kernel
theorem dX4_mix_1 : decode cX4_mix 1 = .ok (.ldc2_w 202, 3) := by decide +kernel
theorem dX4_mix_4 : decode cX4_mix 4 = .ok (.aload_n 0, 1) := by decide +kernel
theorem dX4_mix_5 : decode cX4_mix 5 = .ok (.getfield 204, 3) := by decide +kernel
theorem dX4_mix_8 : decode cX4_mix 8 = .ok (.lmul, 1) := by decide +kernel
theorem dX4_mix_9 : decode cX4_mix 9 = .ok (.lload_n 1, 1) := by decide +kernel
theorem dX4_mix_10 : decode cX4_mix 10 = .ok (.ladd, 1) := by decide +kernel
theorem dX4_mix_11 : decode cX4_mix 11 = .ok (.putfield 204, 3) := by decide +kernel
theorem dX4_mix_14 : decode cX4_mix 14 = .ok (.return_, 1) := by decide +kernel
theorem dX4_digest_0 : decode cX4_digest 0 = .ok (.aload_n 0, 1) := by decide +kernel
theorem dX4_digest_1 : decode cX4_digest 1 = .ok (.iconst 0, 1) := by decide +kernel
theorem dX4_digest_2 : decode cX4_digest 2 = .ok (.putfield 16, 3) := by decide +kernel
theorem dX4_digest_5 : decode cX4_digest 5 = .ok (.aload_n 0, 1) := by decide +kernel
theorem dX4_digest_6 : decode cX4_digest 6 = .ok (.ldc2_w 208, 3) := by decide +kernel
theorem dX4_digest_9 : decode cX4_digest 9 = .ok (.putfield 204, 3) := by decide +kernel
theorem dX4_digest_12 : decode cX4_digest 12 = .ok (.aload_n 0, 1) := by decide +kernel
theorem dX4_digest_13 : decode cX4_digest 13 = .ok (.aload_n 0, 1) := by decide +kernel
theorem dX4_digest_14 : decode cX4_digest 14 = .ok (.getfield 7, 3) := by decide +kernel
theorem dX4_digest_17 : decode cX4_digest 17 = .ok (.iconst 0, 1) := by decide +kernel
theorem dX4_digest_18 : decode cX4_digest 18 = .ok (.iaload, 1) := by decide +kernel
theorem dX4_digest_19 : decode cX4_digest 19 = .ok (.i2l, 1) := by decide +kernel
theorem dX4_digest_20 : decode cX4_digest 20 = .ok (.invokevirtual 210, 3) := by decide +kernel
theorem dX4_digest_23 : decode cX4_digest 23 = .ok (.aload_n 0, 1) := by decide +kernel
theorem dX4_digest_24 : decode cX4_digest 24 = .ok (.aload_n 0, 1) := by decide +kernel
theorem dX4_digest_25 : decode cX4_digest 25 = .ok (.getfield 7, 3) := by decide +kernel
theorem dX4_digest_28 : decode cX4_digest 28 = .ok (.iconst 1, 1) := by decide +kernel
theorem dX4_digest_29 : decode cX4_digest 29 = .ok (.iaload, 1) := by decide +kernel
theorem dX4_digest_30 : decode cX4_digest 30 = .ok (.i2l, 1) := by decide +kernel
theorem dX4_digest_31 : decode cX4_digest 31 = .ok (.invokevirtual 210, 3) := by decide +kernel
theorem dX4_digest_34 : decode cX4_digest 34 = .ok (.aload_n 0, 1) := by decide +kernel
theorem dX4_digest_35 : decode cX4_digest 35 = .ok (.aload_n 0, 1) := by decide +kernel
theorem dX4_digest_36 : decode cX4_digest 36 = .ok (.getfield 7, 3) := by decide +kernel
theorem dX4_digest_39 : decode cX4_digest 39 = .ok (.iconst 2, 1) := by decide +kernel
theorem dX4_digest_40 : decode cX4_digest 40 = .ok (.iaload, 1) := by decide +kernel
theorem dX4_digest_41 : decode cX4_digest 41 = .ok (.i2l, 1) := by decide +kernel
theorem dX4_digest_42 : decode cX4_digest 42 = .ok (.invokevirtual 210, 3) := by decide +kernel
theorem dX4_digest_45 : decode cX4_digest 45 = .ok (.iconst 0, 1) := by decide +kernel
theorem dX4_digest_46 : decode cX4_digest 46 = .ok (.istore_n 1, 1) := by decide +kernel
theorem dX4_digest_47 : decode cX4_digest 47 = .ok (.iload_n 1, 1) := by decide +kernel
theorem dX4_digest_48 : decode cX4_digest 48 = .ok (.iconst 5, 1) := by decide +kernel
theorem dX4_digest_49 : decode cX4_digest 49 = .ok (.if_icmp .ge 22, 3) := by decide +kernel
theorem dX4_digest_52 : decode cX4_digest 52 = .ok (.aload_n 0, 1) := by decide +kernel
theorem dX4_digest_53 : decode cX4_digest 53 = .ok (.aload_n 0, 1) := by decide +kernel
theorem dX4_digest_54 : decode cX4_digest 54 = .ok (.getfield 7, 3) := by decide +kernel
theorem dX4_digest_57 : decode cX4_digest 57 = .ok (.iconst 3, 1) := by decide +kernel
theorem dX4_digest_58 : decode cX4_digest 58 = .ok (.iload_n 1, 1) := by decide +kernel
theorem dX4_digest_59 : decode cX4_digest 59 = .ok (.iadd, 1) := by decide +kernel
theorem dX4_digest_60 : decode cX4_digest 60 = .ok (.iaload, 1) := by decide +kernel
theorem dX4_digest_61 : decode cX4_digest 61 = .ok (.i2l, 1) := by decide +kernel
theorem dX4_digest_62 : decode cX4_digest 62 = .ok (.invokevirtual 210, 3) := by decide +kernel
theorem dX4_digest_65 : decode cX4_digest 65 = .ok (.iinc 1 1, 3) := by decide +kernel
theorem dX4_digest_68 : decode cX4_digest 68 = .ok (.goto (-21), 3) := by decide +kernel
theorem dX4_digest_71 : decode cX4_digest 71 = .ok (.iconst 0, 1) := by decide +kernel
theorem dX4_digest_72 : decode cX4_digest 72 = .ok (.istore_n 1, 1) := by decide +kernel
theorem dX4_digest_73 : decode cX4_digest 73 = .ok (.iload_n 1, 1) := by decide +kernel
theorem dX4_digest_74 : decode cX4_digest 74 = .ok (.bipush 8, 2) := by decide +kernel
theorem dX4_digest_76 : decode cX4_digest 76 = .ok (.if_icmp .ge 57, 3) := by decide +kernel
theorem dX4_digest_79 : decode cX4_digest 79 = .ok (.aload_n 0, 1) := by decide +kernel
theorem dX4_digest_80 : decode cX4_digest 80 = .ok (.aload_n 0, 1) := by decide +kernel
theorem dX4_digest_81 : decode cX4_digest 81 = .ok (.getfield 7, 3) := by decide +kernel
theorem dX4_digest_84 : decode cX4_digest 84 = .ok (.bipush 8, 2) := by decide +kernel
theorem dX4_digest_86 : decode cX4_digest 86 = .ok (.iload_n 1, 1) := by decide +kernel
theorem dX4_digest_87 : decode cX4_digest 87 = .ok (.iadd, 1) := by decide +kernel
theorem dX4_digest_88 : decode cX4_digest 88 = .ok (.iaload, 1) := by decide +kernel
theorem dX4_digest_89 : decode cX4_digest 89 = .ok (.i2l, 1) := by decide +kernel
theorem dX4_digest_90 : decode cX4_digest 90 = .ok (.invokevirtual 210, 3) := by decide +kernel
theorem dX4_digest_93 : decode cX4_digest 93 = .ok (.aload_n 0, 1) := by decide +kernel
theorem dX4_digest_94 : decode cX4_digest 94 = .ok (.aload_n 0, 1) := by decide +kernel
theorem dX4_digest_95 : decode cX4_digest 95 = .ok (.getfield 7, 3) := by decide +kernel
theorem dX4_digest_98 : decode cX4_digest 98 = .ok (.bipush 16, 2) := by decide +kernel
theorem dX4_digest_100 : decode cX4_digest 100 = .ok (.iload_n 1, 1) := by decide +kernel
theorem dX4_digest_101 : decode cX4_digest 101 = .ok (.iadd, 1) := by decide +kernel
theorem dX4_digest_102 : decode cX4_digest 102 = .ok (.iaload, 1) := by decide +kernel
theorem dX4_digest_103 : decode cX4_digest 103 = .ok (.i2l, 1) := by decide +kernel
theorem dX4_digest_104 : decode cX4_digest 104 = .ok (.invokevirtual 210, 3) := by decide +kernel
theorem dX4_digest_107 : decode cX4_digest 107 = .ok (.aload_n 0, 1) := by decide +kernel
theorem dX4_digest_108 : decode cX4_digest 108 = .ok (.aload_n 0, 1) := by decide +kernel
theorem dX4_digest_109 : decode cX4_digest 109 = .ok (.iload_n 1, 1) := by decide +kernel
theorem dX4_digest_110 : decode cX4_digest 110 = .ok (.invokevirtual 123, 3) := by decide +kernel
theorem dX4_digest_113 : decode cX4_digest 113 = .ok (.i2l, 1) := by decide +kernel
theorem dX4_digest_114 : decode cX4_digest 114 = .ok (.invokevirtual 210, 3) := by decide +kernel
theorem dX4_digest_117 : decode cX4_digest 117 = .ok (.aload_n 0, 1) := by decide +kernel
theorem dX4_digest_118 : decode cX4_digest 118 = .ok (.aload_n 0, 1) := by decide +kernel
theorem dX4_digest_119 : decode cX4_digest 119 = .ok (.iload_n 1, 1) := by decide +kernel
theorem dX4_digest_120 : decode cX4_digest 120 = .ok (.invokevirtual 144, 3) := by decide +kernel
theorem dX4_digest_123 : decode cX4_digest 123 = .ok (.i2l, 1) := by decide +kernel
theorem dX4_digest_124 : decode cX4_digest 124 = .ok (.invokevirtual 210, 3) := by decide +kernel
theorem dX4_digest_127 : decode cX4_digest 127 = .ok (.iinc 1 1, 3) := by decide +kernel
theorem dX4_digest_130 : decode cX4_digest 130 = .ok (.goto (-57), 3) := by decide +kernel
theorem dX4_digest_133 : decode cX4_digest 133 = .ok (.iconst 0, 1) := by decide +kernel
theorem dX4_digest_134 : decode cX4_digest 134 = .ok (.istore_n 1, 1) := by decide +kernel
theorem dX4_digest_135 : decode cX4_digest 135 = .ok (.iload_n 1, 1) := by decide +kernel
theorem dX4_digest_136 : decode cX4_digest 136 = .ok (.aload_n 0, 1) := by decide +kernel
theorem dX4_digest_137 : decode cX4_digest 137 = .ok (.getfield 7, 3) := by decide +kernel
theorem dX4_digest_140 : decode cX4_digest 140 = .ok (.iconst 0, 1) := by decide +kernel
theorem dX4_digest_141 : decode cX4_digest 141 = .ok (.iaload, 1) := by decide +kernel
theorem dX4_digest_142 : decode cX4_digest 142 = .ok (.if_icmp .ge 60, 3) := by decide +kernel
theorem dX4_digest_145 : decode cX4_digest 145 = .ok (.iconst 1, 1) := by decide +kernel
theorem dX4_digest_146 : decode cX4_digest 146 = .ok (.istore_n 2, 1) := by decide +kernel
theorem dX4_digest_147 : decode cX4_digest 147 = .ok (.iload_n 2, 1) := by decide +kernel
theorem dX4_digest_148 : decode cX4_digest 148 = .ok (.iconst 4, 1) := by decide +kernel
theorem dX4_digest_149 : decode cX4_digest 149 = .ok (.if_icmp .ge 20, 3) := by decide +kernel
theorem dX4_digest_152 : decode cX4_digest 152 = .ok (.aload_n 0, 1) := by decide +kernel
theorem dX4_digest_153 : decode cX4_digest 153 = .ok (.aload_n 0, 1) := by decide +kernel
theorem dX4_digest_154 : decode cX4_digest 154 = .ok (.iload_n 1, 1) := by decide +kernel
theorem dX4_digest_155 : decode cX4_digest 155 = .ok (.iload_n 2, 1) := by decide +kernel
theorem dX4_digest_156 : decode cX4_digest 156 = .ok (.invokevirtual 24, 3) := by decide +kernel
theorem dX4_digest_159 : decode cX4_digest 159 = .ok (.i2l, 1) := by decide +kernel
theorem dX4_digest_160 : decode cX4_digest 160 = .ok (.invokevirtual 210, 3) := by decide +kernel
theorem dX4_digest_163 : decode cX4_digest 163 = .ok (.iinc 2 1, 3) := by decide +kernel
theorem dX4_digest_166 : decode cX4_digest 166 = .ok (.goto (-19), 3) := by decide +kernel
theorem dX4_digest_169 : decode cX4_digest 169 = .ok (.aload_n 0, 1) := by decide +kernel
theorem dX4_digest_170 : decode cX4_digest 170 = .ok (.aload_n 0, 1) := by decide +kernel
theorem dX4_digest_171 : decode cX4_digest 171 = .ok (.iload_n 1, 1) := by decide +kernel
theorem dX4_digest_172 : decode cX4_digest 172 = .ok (.invokevirtual 49, 3) := by decide +kernel
theorem dX4_digest_175 : decode cX4_digest 175 = .ok (.i2l, 1) := by decide +kernel
theorem dX4_digest_176 : decode cX4_digest 176 = .ok (.invokevirtual 210, 3) := by decide +kernel
theorem dX4_digest_179 : decode cX4_digest 179 = .ok (.aload_n 0, 1) := by decide +kernel
theorem dX4_digest_180 : decode cX4_digest 180 = .ok (.aload_n 0, 1) := by decide +kernel
theorem dX4_digest_181 : decode cX4_digest 181 = .ok (.iload_n 1, 1) := by decide +kernel
theorem dX4_digest_182 : decode cX4_digest 182 = .ok (.invokevirtual 113, 3) := by decide +kernel
theorem dX4_digest_185 : decode cX4_digest 185 = .ok (.ifCond .eq 7, 3) := by decide +kernel
theorem dX4_digest_188 : decode cX4_digest 188 = .ok (.lconst 1, 1) := by decide +kernel
theorem dX4_digest_189 : decode cX4_digest 189 = .ok (.goto 4, 3) := by decide +kernel
theorem dX4_digest_192 : decode cX4_digest 192 = .ok (.lconst 0, 1) := by decide +kernel
theorem dX4_digest_193 : decode cX4_digest 193 = .ok (.invokevirtual 210, 3) := by decide +kernel
theorem dX4_digest_196 : decode cX4_digest 196 = .ok (.iinc 1 1, 3) := by decide +kernel
theorem dX4_digest_199 : decode cX4_digest 199 = .ok (.goto (-64), 3) := by decide +kernel
theorem dX4_digest_202 : decode cX4_digest 202 = .ok (.iconst 0, 1) := by decide +kernel
theorem dX4_digest_203 : decode cX4_digest 203 = .ok (.istore_n 1, 1) := by decide +kernel
theorem dX4_digest_204 : decode cX4_digest 204 = .ok (.iload_n 1, 1) := by decide +kernel
theorem dX4_digest_205 : decode cX4_digest 205 = .ok (.aload_n 0, 1) := by decide +kernel
theorem dX4_digest_206 : decode cX4_digest 206 = .ok (.getfield 7, 3) := by decide +kernel
theorem dX4_digest_209 : decode cX4_digest 209 = .ok (.iconst 1, 1) := by decide +kernel
theorem dX4_digest_210 : decode cX4_digest 210 = .ok (.iaload, 1) := by decide +kernel
theorem dX4_digest_211 : decode cX4_digest 211 = .ok (.if_icmp .ge 44, 3) := by decide +kernel
theorem dX4_digest_214 : decode cX4_digest 214 = .ok (.iconst 0, 1) := by decide +kernel
theorem dX4_digest_215 : decode cX4_digest 215 = .ok (.istore_n 2, 1) := by decide +kernel
theorem dX4_digest_216 : decode cX4_digest 216 = .ok (.iload_n 2, 1) := by decide +kernel
theorem dX4_digest_217 : decode cX4_digest 217 = .ok (.iconst 4, 1) := by decide +kernel
theorem dX4_digest_218 : decode cX4_digest 218 = .ok (.if_icmp .ge 20, 3) := by decide +kernel
theorem dX4_digest_221 : decode cX4_digest 221 = .ok (.aload_n 0, 1) := by decide +kernel
theorem dX4_digest_222 : decode cX4_digest 222 = .ok (.aload_n 0, 1) := by decide +kernel
theorem dX4_digest_223 : decode cX4_digest 223 = .ok (.iload_n 1, 1) := by decide +kernel
theorem dX4_digest_224 : decode cX4_digest 224 = .ok (.iload_n 2, 1) := by decide +kernel
theorem dX4_digest_225 : decode cX4_digest 225 = .ok (.invokevirtual 46, 3) := by decide +kernel
theorem dX4_digest_228 : decode cX4_digest 228 = .ok (.i2l, 1) := by decide +kernel
theorem dX4_digest_229 : decode cX4_digest 229 = .ok (.invokevirtual 210, 3) := by decide +kernel
theorem dX4_digest_232 : decode cX4_digest 232 = .ok (.iinc 2 1, 3) := by decide +kernel
theorem dX4_digest_235 : decode cX4_digest 235 = .ok (.goto (-19), 3) := by decide +kernel
theorem dX4_digest_238 : decode cX4_digest 238 = .ok (.aload_n 0, 1) := by decide +kernel
theorem dX4_digest_239 : decode cX4_digest 239 = .ok (.aload_n 0, 1) := by decide +kernel
theorem dX4_digest_240 : decode cX4_digest 240 = .ok (.iload_n 1, 1) := by decide +kernel
theorem dX4_digest_241 : decode cX4_digest 241 = .ok (.iconst (-1), 1) := by decide +kernel
theorem dX4_digest_242 : decode cX4_digest 242 = .ok (.invokevirtual 141, 3) := by decide +kernel
theorem dX4_digest_245 : decode cX4_digest 245 = .ok (.i2l, 1) := by decide +kernel
theorem dX4_digest_246 : decode cX4_digest 246 = .ok (.invokevirtual 210, 3) := by decide +kernel
theorem dX4_digest_249 : decode cX4_digest 249 = .ok (.iinc 1 1, 3) := by decide +kernel
theorem dX4_digest_252 : decode cX4_digest 252 = .ok (.goto (-48), 3) := by decide +kernel
theorem dX4_digest_255 : decode cX4_digest 255 = .ok (.iconst 0, 1) := by decide +kernel
theorem dX4_digest_256 : decode cX4_digest 256 = .ok (.istore_n 1, 1) := by decide +kernel
theorem dX4_digest_257 : decode cX4_digest 257 = .ok (.iload_n 1, 1) := by decide +kernel
theorem dX4_digest_258 : decode cX4_digest 258 = .ok (.iconst 4, 1) := by decide +kernel
theorem dX4_digest_259 : decode cX4_digest 259 = .ok (.if_icmp .ge 23, 3) := by decide +kernel
theorem dX4_digest_262 : decode cX4_digest 262 = .ok (.aload_n 0, 1) := by decide +kernel
theorem dX4_digest_263 : decode cX4_digest 263 = .ok (.aload_n 0, 1) := by decide +kernel
theorem dX4_digest_264 : decode cX4_digest 264 = .ok (.getfield 7, 3) := by decide +kernel
theorem dX4_digest_267 : decode cX4_digest 267 = .ok (.bipush 114, 2) := by decide +kernel
theorem dX4_digest_269 : decode cX4_digest 269 = .ok (.iload_n 1, 1) := by decide +kernel
theorem dX4_digest_270 : decode cX4_digest 270 = .ok (.iadd, 1) := by decide +kernel
theorem dX4_digest_271 : decode cX4_digest 271 = .ok (.iaload, 1) := by decide +kernel
theorem dX4_digest_272 : decode cX4_digest 272 = .ok (.i2l, 1) := by decide +kernel
theorem dX4_digest_273 : decode cX4_digest 273 = .ok (.invokevirtual 210, 3) := by decide +kernel
theorem dX4_digest_276 : decode cX4_digest 276 = .ok (.iinc 1 1, 3) := by decide +kernel
theorem dX4_digest_279 : decode cX4_digest 279 = .ok (.goto (-22), 3) := by decide +kernel
theorem dX4_digest_282 : decode cX4_digest 282 = .ok (.iconst 1, 1) := by decide +kernel
theorem dX4_digest_283 : decode cX4_digest 283 = .ok (.istore_n 1, 1) := by decide +kernel
theorem dX4_digest_284 : decode cX4_digest 284 = .ok (.iload_n 1, 1) := by decide +kernel
theorem dX4_digest_285 : decode cX4_digest 285 = .ok (.iconst 4, 1) := by decide +kernel
theorem dX4_digest_286 : decode cX4_digest 286 = .ok (.if_icmp .ge 19, 3) := by decide +kernel
theorem dX4_digest_289 : decode cX4_digest 289 = .ok (.aload_n 0, 1) := by decide +kernel
theorem dX4_digest_290 : decode cX4_digest 290 = .ok (.aload_n 0, 1) := by decide +kernel
theorem dX4_digest_291 : decode cX4_digest 291 = .ok (.iload_n 1, 1) := by decide +kernel
theorem dX4_digest_292 : decode cX4_digest 292 = .ok (.invokevirtual 150, 3) := by decide +kernel
theorem dX4_digest_295 : decode cX4_digest 295 = .ok (.i2l, 1) := by decide +kernel
theorem dX4_digest_296 : decode cX4_digest 296 = .ok (.invokevirtual 210, 3) := by decide +kernel
theorem dX4_digest_299 : decode cX4_digest 299 = .ok (.iinc 1 1, 3) := by decide +kernel
theorem dX4_digest_302 : decode cX4_digest 302 = .ok (.goto (-18), 3) := by decide +kernel
theorem dX4_digest_305 : decode cX4_digest 305 = .ok (.aload_n 0, 1) := by decide +kernel
theorem dX4_digest_306 : decode cX4_digest 306 = .ok (.getfield 204, 3) := by decide +kernel
theorem dX4_digest_309 : decode cX4_digest 309 = .ok (.lreturn, 1) := by decide +kernel
end
section
theorem dJ9_floorMod_7cf53_0 : decode cJ9_floorMod_7cf53 0 = .ok (.iload_n 0, 1) := by decide +kernel
theorem dJ9_floorMod_7cf53_1 : decode cJ9_floorMod_7cf53 1 = .ok (.iload_n 1, 1) := by decide +kernel
theorem dJ9_floorMod_7cf53_2 : decode cJ9_floorMod_7cf53 2 = .ok (.irem, 1) := by decide +kernel
theorem dJ9_floorMod_7cf53_3 : decode cJ9_floorMod_7cf53 3 = .ok (.istore_n 2, 1) := by decide +kernel
theorem dJ9_floorMod_7cf53_4 : decode cJ9_floorMod_7cf53 4 = .ok (.iload_n 0, 1) := by decide +kernel
theorem dJ9_floorMod_7cf53_5 : decode cJ9_floorMod_7cf53 5 = .ok (.iload_n 1, 1) := by decide +kernel
theorem dJ9_floorMod_7cf53_6 : decode cJ9_floorMod_7cf53 6 = .ok (.ixor, 1) := by decide +kernel
theorem dJ9_floorMod_7cf53_7 : decode cJ9_floorMod_7cf53 7 = .ok (.ifCond .ge 11, 3) := by decide +kernel
theorem dJ9_floorMod_7cf53_10 : decode cJ9_floorMod_7cf53 10 = .ok (.iload_n 2, 1) := by decide +kernel
theorem dJ9_floorMod_7cf53_11 : decode cJ9_floorMod_7cf53 11 = .ok (.ifCond .eq 7, 3) := by decide +kernel
theorem dJ9_floorMod_7cf53_14 : decode cJ9_floorMod_7cf53 14 = .ok (.iload_n 2, 1) := by decide +kernel
theorem dJ9_floorMod_7cf53_15 : decode cJ9_floorMod_7cf53 15 = .ok (.iload_n 1, 1) := by decide +kernel
theorem dJ9_floorMod_7cf53_16 : decode cJ9_floorMod_7cf53 16 = .ok (.iadd, 1) := by decide +kernel
theorem dJ9_floorMod_7cf53_17 : decode cJ9_floorMod_7cf53 17 = .ok (.ireturn, 1) := by decide +kernel
theorem dJ9_floorMod_7cf53_18 : decode cJ9_floorMod_7cf53 18 = .ok (.iload_n 2, 1) := by decide +kernel
theorem dJ9_floorMod_7cf53_19 : decode cJ9_floorMod_7cf53 19 = .ok (.ireturn, 1) := by decide +kernel
theorem dJ9_min_7cf53_0 : decode cJ9_min_7cf53 0 = .ok (.iload_n 0, 1) := by decide +kernel
theorem dJ9_min_7cf53_1 : decode cJ9_min_7cf53 1 = .ok (.iload_n 1, 1) := by decide +kernel
theorem dJ9_min_7cf53_2 : decode cJ9_min_7cf53 2 = .ok (.if_icmp .gt 7, 3) := by decide +kernel
theorem dJ9_min_7cf53_5 : decode cJ9_min_7cf53 5 = .ok (.iload_n 0, 1) := by decide +kernel
theorem dJ9_min_7cf53_6 : decode cJ9_min_7cf53 6 = .ok (.goto 4, 3) := by decide +kernel
theorem dJ9_min_7cf53_9 : decode cJ9_min_7cf53 9 = .ok (.iload_n 1, 1) := by decide +kernel
theorem dJ9_min_7cf53_10 : decode cJ9_min_7cf53 10 = .ok (.ireturn, 1) := by decide +kernel
theorem dJ7_fill_53178_0 : decode cJ7_fill_53178 0 = .ok (.iconst 0, 1) := by decide +kernel
theorem dJ7_fill_53178_1 : decode cJ7_fill_53178 1 = .ok (.istore_n 2, 1) := by decide +kernel
theorem dJ7_fill_53178_2 : decode cJ7_fill_53178 2 = .ok (.aload_n 0, 1) := by decide +kernel
theorem dJ7_fill_53178_3 : decode cJ7_fill_53178 3 = .ok (.arraylength, 1) := by decide +kernel
theorem dJ7_fill_53178_4 : decode cJ7_fill_53178 4 = .ok (.istore_n 3, 1) := by decide +kernel
theorem dJ7_fill_53178_5 : decode cJ7_fill_53178 5 = .ok (.iload_n 2, 1) := by decide +kernel
theorem dJ7_fill_53178_6 : decode cJ7_fill_53178 6 = .ok (.iload_n 3, 1) := by decide +kernel
theorem dJ7_fill_53178_7 : decode cJ7_fill_53178 7 = .ok (.if_icmp .ge 13, 3) := by decide +kernel
theorem dJ7_fill_53178_10 : decode cJ7_fill_53178 10 = .ok (.aload_n 0, 1) := by decide +kernel
theorem dJ7_fill_53178_11 : decode cJ7_fill_53178 11 = .ok (.iload_n 2, 1) := by decide +kernel
theorem dJ7_fill_53178_12 : decode cJ7_fill_53178 12 = .ok (.iload_n 1, 1) := by decide +kernel
theorem dJ7_fill_53178_13 : decode cJ7_fill_53178 13 = .ok (.iastore, 1) := by decide +kernel
theorem dJ7_fill_53178_14 : decode cJ7_fill_53178 14 = .ok (.iinc 2 1, 3) := by decide +kernel
theorem dJ7_fill_53178_17 : decode cJ7_fill_53178 17 = .ok (.goto (-12), 3) := by decide +kernel
theorem dJ7_fill_53178_20 : decode cJ7_fill_53178 20 = .ok (.return_, 1) := by decide +kernel
theorem dL_setOpen_0 : decode cL_setOpen 0 = .ok (.aload_n 3, 1) := by decide +kernel
theorem dL_setOpen_1 : decode cL_setOpen 1 = .ok (.iconst 0, 1) := by decide +kernel
theorem dL_setOpen_2 : decode cL_setOpen 2 = .ok (.aload_n 0, 1) := by decide +kernel
theorem dL_setOpen_3 : decode cL_setOpen 3 = .ok (.iload_n 1, 1) := by decide +kernel
theorem dL_setOpen_4 : decode cL_setOpen 4 = .ok (.iload_n 2, 1) := by decide +kernel
theorem dL_setOpen_5 : decode cL_setOpen 5 = .ok (.invokevirtual 7, 3) := by decide +kernel
theorem dL_setOpen_8 : decode cL_setOpen 8 = .ok (.ifCond .eq 7, 3) := by decide +kernel
theorem dL_setOpen_11 : decode cL_setOpen 11 = .ok (.lconst 1, 1) := by decide +kernel
theorem dL_setOpen_12 : decode cL_setOpen 12 = .ok (.goto 4, 3) := by decide +kernel
theorem dL_setOpen_15 : decode cL_setOpen 15 = .ok (.lconst 0, 1) := by decide +kernel
theorem dL_setOpen_16 : decode cL_setOpen 16 = .ok (.lastore, 1) := by decide +kernel
theorem dL_setOpen_17 : decode cL_setOpen 17 = .ok (.goto 7, 3) := by decide +kernel
theorem dL_setOpen_20 : decode cL_setOpen 20 = .ok (.astore 4, 2) := by decide +kernel
theorem dL_setOpen_22 : decode cL_setOpen 22 = .ok (.iconst 1, 1) := by decide +kernel
theorem dL_setOpen_23 : decode cL_setOpen 23 = .ok (.ireturn, 1) := by decide +kernel
theorem dL_setOpen_24 : decode cL_setOpen 24 = .ok (.iconst 0, 1) := by decide +kernel
theorem dL_setOpen_25 : decode cL_setOpen 25 = .ok (.ireturn, 1) := by decide +kernel
theorem dL_setKey_0 : decode cL_setKey 0 = .ok (.aload_n 3, 1) := by decide +kernel
theorem dL_setKey_1 : decode cL_setKey 1 = .ok (.iconst 0, 1) := by decide +kernel
theorem dL_setKey_2 : decode cL_setKey 2 = .ok (.aload_n 0, 1) := by decide +kernel
theorem dL_setKey_3 : decode cL_setKey 3 = .ok (.iload_n 1, 1) := by decide +kernel
theorem dL_setKey_4 : decode cL_setKey 4 = .ok (.iload_n 2, 1) := by decide +kernel
theorem dL_setKey_5 : decode cL_setKey 5 = .ok (.invokevirtual 15, 3) := by decide +kernel
theorem dL_setKey_8 : decode cL_setKey 8 = .ok (.i2l, 1) := by decide +kernel
theorem dL_setKey_9 : decode cL_setKey 9 = .ok (.lastore, 1) := by decide +kernel
theorem dL_setKey_10 : decode cL_setKey 10 = .ok (.goto 11, 3) := by decide +kernel
theorem dL_setKey_13 : decode cL_setKey 13 = .ok (.astore 4, 2) := by decide +kernel
theorem dL_setKey_15 : decode cL_setKey 15 = .ok (.iconst 1, 1) := by decide +kernel
theorem dL_setKey_16 : decode cL_setKey 16 = .ok (.ireturn, 1) := by decide +kernel
theorem dL_setKey_17 : decode cL_setKey 17 = .ok (.astore 4, 2) := by decide +kernel
theorem dL_setKey_19 : decode cL_setKey 19 = .ok (.iconst 2, 1) := by decide +kernel
theorem dL_setKey_20 : decode cL_setKey 20 = .ok (.ireturn, 1) := by decide +kernel
theorem dL_setKey_21 : decode cL_setKey 21 = .ok (.iconst 0, 1) := by decide +kernel
theorem dL_setKey_22 : decode cL_setKey 22 = .ok (.ireturn, 1) := by decide +kernel
theorem dL_isOpen_0 : decode cL_isOpen 0 = .ok (.aload_n 2, 1) := by decide +kernel
theorem dL_isOpen_1 : decode cL_isOpen 1 = .ok (.iconst 0, 1) := by decide +kernel
theorem dL_isOpen_2 : decode cL_isOpen 2 = .ok (.aload_n 0, 1) := by decide +kernel
theorem dL_isOpen_3 : decode cL_isOpen 3 = .ok (.iload_n 1, 1) := by decide +kernel
theorem dL_isOpen_4 : decode cL_isOpen 4 = .ok (.invokevirtual 21, 3) := by decide +kernel
theorem dL_isOpen_7 : decode cL_isOpen 7 = .ok (.ifCond .eq 7, 3) := by decide +kernel
theorem dL_isOpen_10 : decode cL_isOpen 10 = .ok (.lconst 1, 1) := by decide +kernel
theorem dL_isOpen_11 : decode cL_isOpen 11 = .ok (.goto 4, 3) := by decide +kernel
theorem dL_isOpen_14 : decode cL_isOpen 14 = .ok (.lconst 0, 1) := by decide +kernel
theorem dL_isOpen_15 : decode cL_isOpen 15 = .ok (.lastore, 1) := by decide +kernel
theorem dL_isOpen_16 : decode cL_isOpen 16 = .ok (.goto 6, 3) := by decide +kernel
theorem dL_isOpen_19 : decode cL_isOpen 19 = .ok (.astore_n 3, 1) := by decide +kernel
theorem dL_isOpen_20 : decode cL_isOpen 20 = .ok (.iconst 1, 1) := by decide +kernel
theorem dL_isOpen_21 : decode cL_isOpen 21 = .ok (.ireturn, 1) := by decide +kernel
theorem dL_isOpen_22 : decode cL_isOpen 22 = .ok (.iconst 0, 1) := by decide +kernel
theorem dL_isOpen_23 : decode cL_isOpen 23 = .ok (.ireturn, 1) := by decide +kernel
theorem dL_key_0 : decode cL_key 0 = .ok (.aload_n 2, 1) := by decide +kernel
theorem dL_key_1 : decode cL_key 1 = .ok (.iconst 0, 1) := by decide +kernel
theorem dL_key_2 : decode cL_key 2 = .ok (.aload_n 0, 1) := by decide +kernel
theorem dL_key_3 : decode cL_key 3 = .ok (.iload_n 1, 1) := by decide +kernel
theorem dL_key_4 : decode cL_key 4 = .ok (.invokevirtual 25, 3) := by decide +kernel
theorem dL_key_7 : decode cL_key 7 = .ok (.i2l, 1) := by decide +kernel
theorem dL_key_8 : decode cL_key 8 = .ok (.lastore, 1) := by decide +kernel
theorem dL_key_9 : decode cL_key 9 = .ok (.goto 6, 3) := by decide +kernel
theorem dL_key_12 : decode cL_key 12 = .ok (.astore_n 3, 1) := by decide +kernel
theorem dL_key_13 : decode cL_key 13 = .ok (.iconst 1, 1) := by decide +kernel
theorem dL_key_14 : decode cL_key 14 = .ok (.ireturn, 1) := by decide +kernel
theorem dL_key_15 : decode cL_key 15 = .ok (.iconst 0, 1) := by decide +kernel
theorem dL_key_16 : decode cL_key 16 = .ok (.ireturn, 1) := by decide +kernel
theorem dL_cover_0 : decode cL_cover 0 = .ok (.aload_n 3, 1) := by decide +kernel
theorem dL_cover_1 : decode cL_cover 1 = .ok (.iconst 0, 1) := by decide +kernel
theorem dL_cover_2 : decode cL_cover 2 = .ok (.aload_n 0, 1) := by decide +kernel
theorem dL_cover_3 : decode cL_cover 3 = .ok (.iload_n 1, 1) := by decide +kernel
theorem dL_cover_4 : decode cL_cover 4 = .ok (.iload_n 2, 1) := by decide +kernel
theorem dL_cover_5 : decode cL_cover 5 = .ok (.invokevirtual 29, 3) := by decide +kernel
theorem dL_cover_8 : decode cL_cover 8 = .ok (.i2l, 1) := by decide +kernel
theorem dL_cover_9 : decode cL_cover 9 = .ok (.lastore, 1) := by decide +kernel
theorem dL_cover_10 : decode cL_cover 10 = .ok (.goto 11, 3) := by decide +kernel
theorem dL_cover_13 : decode cL_cover 13 = .ok (.astore 4, 2) := by decide +kernel
theorem dL_cover_15 : decode cL_cover 15 = .ok (.iconst 1, 1) := by decide +kernel
theorem dL_cover_16 : decode cL_cover 16 = .ok (.ireturn, 1) := by decide +kernel
theorem dL_cover_17 : decode cL_cover 17 = .ok (.astore 4, 2) := by decide +kernel
theorem dL_cover_19 : decode cL_cover 19 = .ok (.iconst 2, 1) := by decide +kernel
theorem dL_cover_20 : decode cL_cover 20 = .ok (.ireturn, 1) := by decide +kernel
theorem dL_cover_21 : decode cL_cover 21 = .ok (.iconst 0, 1) := by decide +kernel
theorem dL_cover_22 : decode cL_cover 22 = .ok (.ireturn, 1) := by decide +kernel
theorem dL_uncover_0 : decode cL_uncover 0 = .ok (.aload_n 3, 1) := by decide +kernel
theorem dL_uncover_1 : decode cL_uncover 1 = .ok (.iconst 0, 1) := by decide +kernel
theorem dL_uncover_2 : decode cL_uncover 2 = .ok (.aload_n 0, 1) := by decide +kernel
theorem dL_uncover_3 : decode cL_uncover 3 = .ok (.iload_n 1, 1) := by decide +kernel
theorem dL_uncover_4 : decode cL_uncover 4 = .ok (.iload_n 2, 1) := by decide +kernel
theorem dL_uncover_5 : decode cL_uncover 5 = .ok (.invokevirtual 32, 3) := by decide +kernel
theorem dL_uncover_8 : decode cL_uncover 8 = .ok (.i2l, 1) := by decide +kernel
theorem dL_uncover_9 : decode cL_uncover 9 = .ok (.lastore, 1) := by decide +kernel
theorem dL_uncover_10 : decode cL_uncover 10 = .ok (.goto 11, 3) := by decide +kernel
theorem dL_uncover_13 : decode cL_uncover 13 = .ok (.astore 4, 2) := by decide +kernel
theorem dL_uncover_15 : decode cL_uncover 15 = .ok (.iconst 1, 1) := by decide +kernel
theorem dL_uncover_16 : decode cL_uncover 16 = .ok (.ireturn, 1) := by decide +kernel
theorem dL_uncover_17 : decode cL_uncover 17 = .ok (.astore 4, 2) := by decide +kernel
theorem dL_uncover_19 : decode cL_uncover 19 = .ok (.iconst 2, 1) := by decide +kernel
theorem dL_uncover_20 : decode cL_uncover 20 = .ok (.ireturn, 1) := by decide +kernel
theorem dL_uncover_21 : decode cL_uncover 21 = .ok (.iconst 0, 1) := by decide +kernel
theorem dL_uncover_22 : decode cL_uncover 22 = .ok (.ireturn, 1) := by decide +kernel
theorem dL_lay_0 : decode cL_lay 0 = .ok (.aload 5, 2) := by decide +kernel
theorem dL_lay_2 : decode cL_lay 2 = .ok (.iconst 0, 1) := by decide +kernel
theorem dL_lay_3 : decode cL_lay 3 = .ok (.aload_n 0, 1) := by decide +kernel
theorem dL_lay_4 : decode cL_lay 4 = .ok (.iload_n 1, 1) := by decide +kernel
theorem dL_lay_5 : decode cL_lay 5 = .ok (.iload_n 2, 1) := by decide +kernel
theorem dL_lay_6 : decode cL_lay 6 = .ok (.iload_n 3, 1) := by decide +kernel
theorem dL_lay_7 : decode cL_lay 7 = .ok (.iload 4, 2) := by decide +kernel
theorem dL_lay_9 : decode cL_lay 9 = .ok (.invokevirtual 35, 3) := by decide +kernel
theorem dL_lay_12 : decode cL_lay 12 = .ok (.i2l, 1) := by decide +kernel
theorem dL_lay_13 : decode cL_lay 13 = .ok (.lastore, 1) := by decide +kernel
theorem dL_lay_14 : decode cL_lay 14 = .ok (.goto 15, 3) := by decide +kernel
theorem dL_lay_17 : decode cL_lay 17 = .ok (.astore 6, 2) := by decide +kernel
theorem dL_lay_19 : decode cL_lay 19 = .ok (.iconst 1, 1) := by decide +kernel
theorem dL_lay_20 : decode cL_lay 20 = .ok (.ireturn, 1) := by decide +kernel
theorem dL_lay_21 : decode cL_lay 21 = .ok (.astore 6, 2) := by decide +kernel
theorem dL_lay_23 : decode cL_lay 23 = .ok (.iconst 2, 1) := by decide +kernel
theorem dL_lay_24 : decode cL_lay 24 = .ok (.ireturn, 1) := by decide +kernel
theorem dL_lay_25 : decode cL_lay 25 = .ok (.astore 6, 2) := by decide +kernel
theorem dL_lay_27 : decode cL_lay 27 = .ok (.iconst 3, 1) := by decide +kernel
theorem dL_lay_28 : decode cL_lay 28 = .ok (.ireturn, 1) := by decide +kernel
theorem dL_lay_29 : decode cL_lay 29 = .ok (.iconst 0, 1) := by decide +kernel
theorem dL_lay_30 : decode cL_lay 30 = .ok (.ireturn, 1) := by decide +kernel
theorem dL_takeUp_0 : decode cL_takeUp 0 = .ok (.aload_n 1, 1) := by decide +kernel
theorem dL_takeUp_1 : decode cL_takeUp 1 = .ok (.iconst 0, 1) := by decide +kernel
theorem dL_takeUp_2 : decode cL_takeUp 2 = .ok (.aload_n 0, 1) := by decide +kernel
theorem dL_takeUp_3 : decode cL_takeUp 3 = .ok (.invokevirtual 41, 3) := by decide +kernel
theorem dL_takeUp_6 : decode cL_takeUp 6 = .ok (.i2l, 1) := by decide +kernel
theorem dL_takeUp_7 : decode cL_takeUp 7 = .ok (.lastore, 1) := by decide +kernel
theorem dL_takeUp_8 : decode cL_takeUp 8 = .ok (.goto 6, 3) := by decide +kernel
theorem dL_takeUp_11 : decode cL_takeUp 11 = .ok (.astore_n 2, 1) := by decide +kernel
theorem dL_takeUp_12 : decode cL_takeUp 12 = .ok (.iconst 1, 1) := by decide +kernel
theorem dL_takeUp_13 : decode cL_takeUp 13 = .ok (.ireturn, 1) := by decide +kernel
theorem dL_takeUp_14 : decode cL_takeUp 14 = .ok (.iconst 0, 1) := by decide +kernel
theorem dL_takeUp_15 : decode cL_takeUp 15 = .ok (.ireturn, 1) := by decide +kernel
theorem dL_inn_0 : decode cL_inn 0 = .ok (.aload_n 3, 1) := by decide +kernel
theorem dL_inn_1 : decode cL_inn 1 = .ok (.iconst 0, 1) := by decide +kernel
theorem dL_inn_2 : decode cL_inn 2 = .ok (.aload_n 0, 1) := by decide +kernel
theorem dL_inn_3 : decode cL_inn 3 = .ok (.iload_n 1, 1) := by decide +kernel
theorem dL_inn_4 : decode cL_inn 4 = .ok (.iload_n 2, 1) := by decide +kernel
theorem dL_inn_5 : decode cL_inn 5 = .ok (.invokevirtual 45, 3) := by decide +kernel
theorem dL_inn_8 : decode cL_inn 8 = .ok (.i2l, 1) := by decide +kernel
theorem dL_inn_9 : decode cL_inn 9 = .ok (.lastore, 1) := by decide +kernel
theorem dL_inn_10 : decode cL_inn 10 = .ok (.goto 7, 3) := by decide +kernel
theorem dL_inn_13 : decode cL_inn 13 = .ok (.astore 4, 2) := by decide +kernel
theorem dL_inn_15 : decode cL_inn 15 = .ok (.iconst 1, 1) := by decide +kernel
theorem dL_inn_16 : decode cL_inn 16 = .ok (.ireturn, 1) := by decide +kernel
theorem dL_inn_17 : decode cL_inn 17 = .ok (.iconst 0, 1) := by decide +kernel
theorem dL_inn_18 : decode cL_inn 18 = .ok (.ireturn, 1) := by decide +kernel
theorem dL_hall_0 : decode cL_hall 0 = .ok (.aload_n 2, 1) := by decide +kernel
theorem dL_hall_1 : decode cL_hall 1 = .ok (.iconst 0, 1) := by decide +kernel
theorem dL_hall_2 : decode cL_hall 2 = .ok (.aload_n 0, 1) := by decide +kernel
theorem dL_hall_3 : decode cL_hall 3 = .ok (.iload_n 1, 1) := by decide +kernel
theorem dL_hall_4 : decode cL_hall 4 = .ok (.invokevirtual 48, 3) := by decide +kernel
theorem dL_hall_7 : decode cL_hall 7 = .ok (.i2l, 1) := by decide +kernel
theorem dL_hall_8 : decode cL_hall 8 = .ok (.lastore, 1) := by decide +kernel
theorem dL_hall_9 : decode cL_hall 9 = .ok (.goto 6, 3) := by decide +kernel
theorem dL_hall_12 : decode cL_hall 12 = .ok (.astore_n 3, 1) := by decide +kernel
theorem dL_hall_13 : decode cL_hall 13 = .ok (.iconst 1, 1) := by decide +kernel
theorem dL_hall_14 : decode cL_hall 14 = .ok (.ireturn, 1) := by decide +kernel
theorem dL_hall_15 : decode cL_hall 15 = .ok (.iconst 0, 1) := by decide +kernel
theorem dL_hall_16 : decode cL_hall 16 = .ok (.ireturn, 1) := by decide +kernel
theorem dL_stands_0 : decode cL_stands 0 = .ok (.aload_n 2, 1) := by decide +kernel
theorem dL_stands_1 : decode cL_stands 1 = .ok (.iconst 0, 1) := by decide +kernel
theorem dL_stands_2 : decode cL_stands 2 = .ok (.aload_n 0, 1) := by decide +kernel
theorem dL_stands_3 : decode cL_stands 3 = .ok (.iload_n 1, 1) := by decide +kernel
theorem dL_stands_4 : decode cL_stands 4 = .ok (.invokevirtual 51, 3) := by decide +kernel
theorem dL_stands_7 : decode cL_stands 7 = .ok (.ifCond .eq 7, 3) := by decide +kernel
theorem dL_stands_10 : decode cL_stands 10 = .ok (.lconst 1, 1) := by decide +kernel
theorem dL_stands_11 : decode cL_stands 11 = .ok (.goto 4, 3) := by decide +kernel
theorem dL_stands_14 : decode cL_stands 14 = .ok (.lconst 0, 1) := by decide +kernel
theorem dL_stands_15 : decode cL_stands 15 = .ok (.lastore, 1) := by decide +kernel
theorem dL_stands_16 : decode cL_stands 16 = .ok (.goto 6, 3) := by decide +kernel
theorem dL_stands_19 : decode cL_stands 19 = .ok (.astore_n 3, 1) := by decide +kernel
theorem dL_stands_20 : decode cL_stands 20 = .ok (.iconst 1, 1) := by decide +kernel
theorem dL_stands_21 : decode cL_stands 21 = .ok (.ireturn, 1) := by decide +kernel
theorem dL_stands_22 : decode cL_stands 22 = .ok (.iconst 0, 1) := by decide +kernel
theorem dL_stands_23 : decode cL_stands 23 = .ok (.ireturn, 1) := by decide +kernel
theorem dL_see_0 : decode cL_see 0 = .ok (.aload 4, 2) := by decide +kernel
theorem dL_see_2 : decode cL_see 2 = .ok (.iconst 0, 1) := by decide +kernel
theorem dL_see_3 : decode cL_see 3 = .ok (.aload_n 0, 1) := by decide +kernel
theorem dL_see_4 : decode cL_see 4 = .ok (.iload_n 1, 1) := by decide +kernel
theorem dL_see_5 : decode cL_see 5 = .ok (.iload_n 2, 1) := by decide +kernel
theorem dL_see_6 : decode cL_see 6 = .ok (.iload_n 3, 1) := by decide +kernel
theorem dL_see_7 : decode cL_see 7 = .ok (.invokevirtual 54, 3) := by decide +kernel
theorem dL_see_10 : decode cL_see 10 = .ok (.i2l, 1) := by decide +kernel
theorem dL_see_11 : decode cL_see 11 = .ok (.lastore, 1) := by decide +kernel
theorem dL_see_12 : decode cL_see 12 = .ok (.goto 7, 3) := by decide +kernel
theorem dL_see_15 : decode cL_see 15 = .ok (.astore 5, 2) := by decide +kernel
theorem dL_see_17 : decode cL_see 17 = .ok (.iconst 1, 1) := by decide +kernel
theorem dL_see_18 : decode cL_see 18 = .ok (.ireturn, 1) := by decide +kernel
theorem dL_see_19 : decode cL_see 19 = .ok (.iconst 0, 1) := by decide +kernel
theorem dL_see_20 : decode cL_see 20 = .ok (.ireturn, 1) := by decide +kernel
theorem dL_known_0 : decode cL_known 0 = .ok (.aload_n 2, 1) := by decide +kernel
theorem dL_known_1 : decode cL_known 1 = .ok (.iconst 0, 1) := by decide +kernel
theorem dL_known_2 : decode cL_known 2 = .ok (.aload_n 0, 1) := by decide +kernel
theorem dL_known_3 : decode cL_known 3 = .ok (.iload_n 1, 1) := by decide +kernel
theorem dL_known_4 : decode cL_known 4 = .ok (.invokevirtual 58, 3) := by decide +kernel
theorem dL_known_7 : decode cL_known 7 = .ok (.i2l, 1) := by decide +kernel
theorem dL_known_8 : decode cL_known 8 = .ok (.lastore, 1) := by decide +kernel
theorem dL_known_9 : decode cL_known 9 = .ok (.goto 6, 3) := by decide +kernel
theorem dL_known_12 : decode cL_known 12 = .ok (.astore_n 3, 1) := by decide +kernel
theorem dL_known_13 : decode cL_known 13 = .ok (.iconst 1, 1) := by decide +kernel
theorem dL_known_14 : decode cL_known 14 = .ok (.ireturn, 1) := by decide +kernel
theorem dL_known_15 : decode cL_known 15 = .ok (.iconst 0, 1) := by decide +kernel
theorem dL_known_16 : decode cL_known 16 = .ok (.ireturn, 1) := by decide +kernel
theorem dL_send_0 : decode cL_send 0 = .ok (.aload_n 3, 1) := by decide +kernel
theorem dL_send_1 : decode cL_send 1 = .ok (.iconst 0, 1) := by decide +kernel
theorem dL_send_2 : decode cL_send 2 = .ok (.aload_n 0, 1) := by decide +kernel
theorem dL_send_3 : decode cL_send 3 = .ok (.iload_n 1, 1) := by decide +kernel
theorem dL_send_4 : decode cL_send 4 = .ok (.iload_n 2, 1) := by decide +kernel
theorem dL_send_5 : decode cL_send 5 = .ok (.invokevirtual 61, 3) := by decide +kernel
theorem dL_send_8 : decode cL_send 8 = .ok (.i2l, 1) := by decide +kernel
theorem dL_send_9 : decode cL_send 9 = .ok (.lastore, 1) := by decide +kernel
theorem dL_send_10 : decode cL_send 10 = .ok (.goto 15, 3) := by decide +kernel
theorem dL_send_13 : decode cL_send 13 = .ok (.astore 4, 2) := by decide +kernel
theorem dL_send_15 : decode cL_send 15 = .ok (.iconst 1, 1) := by decide +kernel
theorem dL_send_16 : decode cL_send 16 = .ok (.ireturn, 1) := by decide +kernel
theorem dL_send_17 : decode cL_send 17 = .ok (.astore 4, 2) := by decide +kernel
theorem dL_send_19 : decode cL_send 19 = .ok (.iconst 2, 1) := by decide +kernel
theorem dL_send_20 : decode cL_send 20 = .ok (.ireturn, 1) := by decide +kernel
theorem dL_send_21 : decode cL_send 21 = .ok (.astore 4, 2) := by decide +kernel
theorem dL_send_23 : decode cL_send 23 = .ok (.iconst 3, 1) := by decide +kernel
theorem dL_send_24 : decode cL_send 24 = .ok (.ireturn, 1) := by decide +kernel
theorem dL_send_25 : decode cL_send 25 = .ok (.iconst 0, 1) := by decide +kernel
theorem dL_send_26 : decode cL_send 26 = .ok (.ireturn, 1) := by decide +kernel
theorem dL_answer_0 : decode cL_answer 0 = .ok (.aload_n 3, 1) := by decide +kernel
theorem dL_answer_1 : decode cL_answer 1 = .ok (.iconst 0, 1) := by decide +kernel
theorem dL_answer_2 : decode cL_answer 2 = .ok (.aload_n 0, 1) := by decide +kernel
theorem dL_answer_3 : decode cL_answer 3 = .ok (.iload_n 1, 1) := by decide +kernel
theorem dL_answer_4 : decode cL_answer 4 = .ok (.iload_n 2, 1) := by decide +kernel
theorem dL_answer_5 : decode cL_answer 5 = .ok (.invokevirtual 64, 3) := by decide +kernel
theorem dL_answer_8 : decode cL_answer 8 = .ok (.i2l, 1) := by decide +kernel
theorem dL_answer_9 : decode cL_answer 9 = .ok (.lastore, 1) := by decide +kernel
theorem dL_answer_10 : decode cL_answer 10 = .ok (.goto 15, 3) := by decide +kernel
theorem dL_answer_13 : decode cL_answer 13 = .ok (.astore 4, 2) := by decide +kernel
theorem dL_answer_15 : decode cL_answer 15 = .ok (.iconst 1, 1) := by decide +kernel
theorem dL_answer_16 : decode cL_answer 16 = .ok (.ireturn, 1) := by decide +kernel
theorem dL_answer_17 : decode cL_answer 17 = .ok (.astore 4, 2) := by decide +kernel
theorem dL_answer_19 : decode cL_answer 19 = .ok (.iconst 2, 1) := by decide +kernel
theorem dL_answer_20 : decode cL_answer 20 = .ok (.ireturn, 1) := by decide +kernel
theorem dL_answer_21 : decode cL_answer 21 = .ok (.astore 4, 2) := by decide +kernel
theorem dL_answer_23 : decode cL_answer 23 = .ok (.iconst 3, 1) := by decide +kernel
theorem dL_answer_24 : decode cL_answer 24 = .ok (.ireturn, 1) := by decide +kernel
theorem dL_answer_25 : decode cL_answer 25 = .ok (.iconst 0, 1) := by decide +kernel
theorem dL_answer_26 : decode cL_answer 26 = .ok (.ireturn, 1) := by decide +kernel
theorem dL_pass_0 : decode cL_pass 0 = .ok (.aload_n 2, 1) := by decide +kernel
theorem dL_pass_1 : decode cL_pass 1 = .ok (.iconst 0, 1) := by decide +kernel
theorem dL_pass_2 : decode cL_pass 2 = .ok (.aload_n 0, 1) := by decide +kernel
theorem dL_pass_3 : decode cL_pass 3 = .ok (.iload_n 1, 1) := by decide +kernel
theorem dL_pass_4 : decode cL_pass 4 = .ok (.invokevirtual 67, 3) := by decide +kernel
theorem dL_pass_7 : decode cL_pass 7 = .ok (.i2l, 1) := by decide +kernel
theorem dL_pass_8 : decode cL_pass 8 = .ok (.lastore, 1) := by decide +kernel
theorem dL_pass_9 : decode cL_pass 9 = .ok (.goto 6, 3) := by decide +kernel
theorem dL_pass_12 : decode cL_pass 12 = .ok (.astore_n 3, 1) := by decide +kernel
theorem dL_pass_13 : decode cL_pass 13 = .ok (.iconst 1, 1) := by decide +kernel
theorem dL_pass_14 : decode cL_pass 14 = .ok (.ireturn, 1) := by decide +kernel
theorem dL_pass_15 : decode cL_pass 15 = .ok (.iconst 0, 1) := by decide +kernel
theorem dL_pass_16 : decode cL_pass 16 = .ok (.ireturn, 1) := by decide +kernel
theorem dL_envelope_0 : decode cL_envelope 0 = .ok (.aload_n 3, 1) := by decide +kernel
theorem dL_envelope_1 : decode cL_envelope 1 = .ok (.iconst 0, 1) := by decide +kernel
theorem dL_envelope_2 : decode cL_envelope 2 = .ok (.aload_n 0, 1) := by decide +kernel
theorem dL_envelope_3 : decode cL_envelope 3 = .ok (.iload_n 1, 1) := by decide +kernel
theorem dL_envelope_4 : decode cL_envelope 4 = .ok (.iload_n 2, 1) := by decide +kernel
theorem dL_envelope_5 : decode cL_envelope 5 = .ok (.invokevirtual 70, 3) := by decide +kernel
theorem dL_envelope_8 : decode cL_envelope 8 = .ok (.i2l, 1) := by decide +kernel
theorem dL_envelope_9 : decode cL_envelope 9 = .ok (.lastore, 1) := by decide +kernel
theorem dL_envelope_10 : decode cL_envelope 10 = .ok (.goto 7, 3) := by decide +kernel
theorem dL_envelope_13 : decode cL_envelope 13 = .ok (.astore 4, 2) := by decide +kernel
theorem dL_envelope_15 : decode cL_envelope 15 = .ok (.iconst 1, 1) := by decide +kernel
theorem dL_envelope_16 : decode cL_envelope 16 = .ok (.ireturn, 1) := by decide +kernel
theorem dL_envelope_17 : decode cL_envelope 17 = .ok (.iconst 0, 1) := by decide +kernel
theorem dL_envelope_18 : decode cL_envelope 18 = .ok (.ireturn, 1) := by decide +kernel
theorem dL_letter_0 : decode cL_letter 0 = .ok (.aload_n 2, 1) := by decide +kernel
theorem dL_letter_1 : decode cL_letter 1 = .ok (.iconst 0, 1) := by decide +kernel
theorem dL_letter_2 : decode cL_letter 2 = .ok (.aload_n 0, 1) := by decide +kernel
theorem dL_letter_3 : decode cL_letter 3 = .ok (.iload_n 1, 1) := by decide +kernel
theorem dL_letter_4 : decode cL_letter 4 = .ok (.invokevirtual 73, 3) := by decide +kernel
theorem dL_letter_7 : decode cL_letter 7 = .ok (.i2l, 1) := by decide +kernel
theorem dL_letter_8 : decode cL_letter 8 = .ok (.lastore, 1) := by decide +kernel
theorem dL_letter_9 : decode cL_letter 9 = .ok (.goto 6, 3) := by decide +kernel
theorem dL_letter_12 : decode cL_letter 12 = .ok (.astore_n 3, 1) := by decide +kernel
theorem dL_letter_13 : decode cL_letter 13 = .ok (.iconst 1, 1) := by decide +kernel
theorem dL_letter_14 : decode cL_letter 14 = .ok (.ireturn, 1) := by decide +kernel
theorem dL_letter_15 : decode cL_letter 15 = .ok (.iconst 0, 1) := by decide +kernel
theorem dL_letter_16 : decode cL_letter 16 = .ok (.ireturn, 1) := by decide +kernel
theorem dL_count_0 : decode cL_count 0 = .ok (.aload_n 2, 1) := by decide +kernel
theorem dL_count_1 : decode cL_count 1 = .ok (.iconst 0, 1) := by decide +kernel
theorem dL_count_2 : decode cL_count 2 = .ok (.aload_n 0, 1) := by decide +kernel
theorem dL_count_3 : decode cL_count 3 = .ok (.iload_n 1, 1) := by decide +kernel
theorem dL_count_4 : decode cL_count 4 = .ok (.invokevirtual 76, 3) := by decide +kernel
theorem dL_count_7 : decode cL_count 7 = .ok (.i2l, 1) := by decide +kernel
theorem dL_count_8 : decode cL_count 8 = .ok (.lastore, 1) := by decide +kernel
theorem dL_count_9 : decode cL_count 9 = .ok (.goto 6, 3) := by decide +kernel
theorem dL_count_12 : decode cL_count 12 = .ok (.astore_n 3, 1) := by decide +kernel
theorem dL_count_13 : decode cL_count 13 = .ok (.iconst 1, 1) := by decide +kernel
theorem dL_count_14 : decode cL_count 14 = .ok (.ireturn, 1) := by decide +kernel
theorem dL_count_15 : decode cL_count 15 = .ok (.iconst 0, 1) := by decide +kernel
theorem dL_count_16 : decode cL_count 16 = .ok (.ireturn, 1) := by decide +kernel
theorem dL_lostIfClosed_0 : decode cL_lostIfClosed 0 = .ok (.aload_n 2, 1) := by decide +kernel
theorem dL_lostIfClosed_1 : decode cL_lostIfClosed 1 = .ok (.iconst 0, 1) := by decide +kernel
theorem dL_lostIfClosed_2 : decode cL_lostIfClosed 2 = .ok (.aload_n 0, 1) := by decide +kernel
theorem dL_lostIfClosed_3 : decode cL_lostIfClosed 3 = .ok (.iload_n 1, 1) := by decide +kernel
theorem dL_lostIfClosed_4 : decode cL_lostIfClosed 4 = .ok (.invokevirtual 79, 3) := by decide +kernel
theorem dL_lostIfClosed_7 : decode cL_lostIfClosed 7 = .ok (.i2l, 1) := by decide +kernel
theorem dL_lostIfClosed_8 : decode cL_lostIfClosed 8 = .ok (.lastore, 1) := by decide +kernel
theorem dL_lostIfClosed_9 : decode cL_lostIfClosed 9 = .ok (.goto 6, 3) := by decide +kernel
theorem dL_lostIfClosed_12 : decode cL_lostIfClosed 12 = .ok (.astore_n 3, 1) := by decide +kernel
theorem dL_lostIfClosed_13 : decode cL_lostIfClosed 13 = .ok (.iconst 1, 1) := by decide +kernel
theorem dL_lostIfClosed_14 : decode cL_lostIfClosed 14 = .ok (.ireturn, 1) := by decide +kernel
theorem dL_lostIfClosed_15 : decode cL_lostIfClosed 15 = .ok (.iconst 0, 1) := by decide +kernel
theorem dL_lostIfClosed_16 : decode cL_lostIfClosed 16 = .ok (.ireturn, 1) := by decide +kernel
theorem dL_ticksTo_0 : decode cL_ticksTo 0 = .ok (.aload_n 2, 1) := by decide +kernel
theorem dL_ticksTo_1 : decode cL_ticksTo 1 = .ok (.iconst 0, 1) := by decide +kernel
theorem dL_ticksTo_2 : decode cL_ticksTo 2 = .ok (.aload_n 0, 1) := by decide +kernel
theorem dL_ticksTo_3 : decode cL_ticksTo 3 = .ok (.iload_n 1, 1) := by decide +kernel
theorem dL_ticksTo_4 : decode cL_ticksTo 4 = .ok (.invokevirtual 82, 3) := by decide +kernel
theorem dL_ticksTo_7 : decode cL_ticksTo 7 = .ok (.i2l, 1) := by decide +kernel
theorem dL_ticksTo_8 : decode cL_ticksTo 8 = .ok (.lastore, 1) := by decide +kernel
theorem dL_ticksTo_9 : decode cL_ticksTo 9 = .ok (.goto 6, 3) := by decide +kernel
theorem dL_ticksTo_12 : decode cL_ticksTo 12 = .ok (.astore_n 3, 1) := by decide +kernel
theorem dL_ticksTo_13 : decode cL_ticksTo 13 = .ok (.iconst 1, 1) := by decide +kernel
theorem dL_ticksTo_14 : decode cL_ticksTo 14 = .ok (.ireturn, 1) := by decide +kernel
theorem dL_ticksTo_15 : decode cL_ticksTo 15 = .ok (.iconst 0, 1) := by decide +kernel
theorem dL_ticksTo_16 : decode cL_ticksTo 16 = .ok (.ireturn, 1) := by decide +kernel
theorem dL_leastWork_0 : decode cL_leastWork 0 = .ok (.aload_n 2, 1) := by decide +kernel
theorem dL_leastWork_1 : decode cL_leastWork 1 = .ok (.iconst 0, 1) := by decide +kernel
theorem dL_leastWork_2 : decode cL_leastWork 2 = .ok (.aload_n 0, 1) := by decide +kernel
theorem dL_leastWork_3 : decode cL_leastWork 3 = .ok (.iload_n 1, 1) := by decide +kernel
theorem dL_leastWork_4 : decode cL_leastWork 4 = .ok (.invokevirtual 85, 3) := by decide +kernel
theorem dL_leastWork_7 : decode cL_leastWork 7 = .ok (.i2l, 1) := by decide +kernel
theorem dL_leastWork_8 : decode cL_leastWork 8 = .ok (.lastore, 1) := by decide +kernel
theorem dL_leastWork_9 : decode cL_leastWork 9 = .ok (.goto 6, 3) := by decide +kernel
theorem dL_leastWork_12 : decode cL_leastWork 12 = .ok (.astore_n 3, 1) := by decide +kernel
theorem dL_leastWork_13 : decode cL_leastWork 13 = .ok (.iconst 1, 1) := by decide +kernel
theorem dL_leastWork_14 : decode cL_leastWork 14 = .ok (.ireturn, 1) := by decide +kernel
theorem dL_leastWork_15 : decode cL_leastWork 15 = .ok (.iconst 0, 1) := by decide +kernel
theorem dL_leastWork_16 : decode cL_leastWork 16 = .ok (.ireturn, 1) := by decide +kernel
theorem dL_append_0 : decode cL_append 0 = .ok (.aload_n 2, 1) := by decide +kernel
theorem dL_append_1 : decode cL_append 1 = .ok (.iconst 0, 1) := by decide +kernel
theorem dL_append_2 : decode cL_append 2 = .ok (.aload_n 0, 1) := by decide +kernel
theorem dL_append_3 : decode cL_append 3 = .ok (.iload_n 1, 1) := by decide +kernel
theorem dL_append_4 : decode cL_append 4 = .ok (.invokevirtual 88, 3) := by decide +kernel
theorem dL_append_7 : decode cL_append 7 = .ok (.i2l, 1) := by decide +kernel
theorem dL_append_8 : decode cL_append 8 = .ok (.lastore, 1) := by decide +kernel
theorem dL_append_9 : decode cL_append 9 = .ok (.goto 9, 3) := by decide +kernel
theorem dL_append_12 : decode cL_append 12 = .ok (.astore_n 3, 1) := by decide +kernel
theorem dL_append_13 : decode cL_append 13 = .ok (.iconst 1, 1) := by decide +kernel
theorem dL_append_14 : decode cL_append 14 = .ok (.ireturn, 1) := by decide +kernel
theorem dL_append_15 : decode cL_append 15 = .ok (.astore_n 3, 1) := by decide +kernel
theorem dL_append_16 : decode cL_append 16 = .ok (.iconst 2, 1) := by decide +kernel
theorem dL_append_17 : decode cL_append 17 = .ok (.ireturn, 1) := by decide +kernel
theorem dL_append_18 : decode cL_append 18 = .ok (.iconst 0, 1) := by decide +kernel
theorem dL_append_19 : decode cL_append 19 = .ok (.ireturn, 1) := by decide +kernel
theorem dL_run_0 : decode cL_run 0 = .ok (.aload_n 1, 1) := by decide +kernel
theorem dL_run_1 : decode cL_run 1 = .ok (.iconst 0, 1) := by decide +kernel
theorem dL_run_2 : decode cL_run 2 = .ok (.aload_n 0, 1) := by decide +kernel
theorem dL_run_3 : decode cL_run 3 = .ok (.invokevirtual 91, 3) := by decide +kernel
theorem dL_run_6 : decode cL_run 6 = .ok (.i2l, 1) := by decide +kernel
theorem dL_run_7 : decode cL_run 7 = .ok (.lastore, 1) := by decide +kernel
theorem dL_run_8 : decode cL_run 8 = .ok (.goto 6, 3) := by decide +kernel
theorem dL_run_11 : decode cL_run 11 = .ok (.astore_n 2, 1) := by decide +kernel
theorem dL_run_12 : decode cL_run 12 = .ok (.iconst 1, 1) := by decide +kernel
theorem dL_run_13 : decode cL_run 13 = .ok (.ireturn, 1) := by decide +kernel
theorem dL_run_14 : decode cL_run 14 = .ok (.iconst 0, 1) := by decide +kernel
theorem dL_run_15 : decode cL_run 15 = .ok (.ireturn, 1) := by decide +kernel
theorem dL_undo_0 : decode cL_undo 0 = .ok (.aload_n 1, 1) := by decide +kernel
theorem dL_undo_1 : decode cL_undo 1 = .ok (.iconst 0, 1) := by decide +kernel
theorem dL_undo_2 : decode cL_undo 2 = .ok (.aload_n 0, 1) := by decide +kernel
theorem dL_undo_3 : decode cL_undo 3 = .ok (.invokevirtual 94, 3) := by decide +kernel
theorem dL_undo_6 : decode cL_undo 6 = .ok (.i2l, 1) := by decide +kernel
theorem dL_undo_7 : decode cL_undo 7 = .ok (.lastore, 1) := by decide +kernel
theorem dL_undo_8 : decode cL_undo 8 = .ok (.goto 6, 3) := by decide +kernel
theorem dL_undo_11 : decode cL_undo 11 = .ok (.astore_n 2, 1) := by decide +kernel
theorem dL_undo_12 : decode cL_undo 12 = .ok (.iconst 1, 1) := by decide +kernel
theorem dL_undo_13 : decode cL_undo 13 = .ok (.ireturn, 1) := by decide +kernel
theorem dL_undo_14 : decode cL_undo 14 = .ok (.iconst 0, 1) := by decide +kernel
theorem dL_undo_15 : decode cL_undo 15 = .ok (.ireturn, 1) := by decide +kernel
theorem dL_law_0 : decode cL_law 0 = .ok (.new 8, 3) := by decide +kernel
theorem dL_law_3 : decode cL_law 3 = .ok (.dup, 1) := by decide +kernel
theorem dL_law_4 : decode cL_law 4 = .ok (.invokespecial 97, 3) := by decide +kernel
theorem dL_law_7 : decode cL_law 7 = .ok (.astore_n 1, 1) := by decide +kernel
theorem dL_law_8 : decode cL_law 8 = .ok (.new 98, 3) := by decide +kernel
theorem dL_law_11 : decode cL_law 11 = .ok (.dup, 1) := by decide +kernel
theorem dL_law_12 : decode cL_law 12 = .ok (.invokespecial 100, 3) := by decide +kernel
theorem dL_law_15 : decode cL_law 15 = .ok (.astore_n 2, 1) := by decide +kernel
theorem dL_law_16 : decode cL_law 16 = .ok (.iconst 1, 1) := by decide +kernel
theorem dL_law_17 : decode cL_law 17 = .ok (.newarray .long, 2) := by decide +kernel
theorem dL_law_19 : decode cL_law 19 = .ok (.astore_n 3, 1) := by decide +kernel
theorem dL_law_20 : decode cL_law 20 = .ok (.iconst 0, 1) := by decide +kernel
theorem dL_law_21 : decode cL_law 21 = .ok (.istore 4, 2) := by decide +kernel
theorem dL_law_23 : decode cL_law 23 = .ok (.iload 4, 2) := by decide +kernel
theorem dL_law_25 : decode cL_law 25 = .ok (.aload_n 0, 1) := by decide +kernel
theorem dL_law_26 : decode cL_law 26 = .ok (.arraylength, 1) := by decide +kernel
theorem dL_law_27 : decode cL_law 27 = .ok (.iconst 5, 1) := by decide +kernel
theorem dL_law_28 : decode cL_law 28 = .ok (.isub, 1) := by decide +kernel
theorem dL_law_29 : decode cL_law 29 = .ok (.if_icmp .gt 1851, 3) := by decide +kernel
theorem dL_law_32 : decode cL_law 32 = .ok (.aload_n 0, 1) := by decide +kernel
theorem dL_law_33 : decode cL_law 33 = .ok (.iload 4, 2) := by decide +kernel
theorem dL_law_35 : decode cL_law 35 = .ok (.iaload, 1) := by decide +kernel
theorem dL_law_36 : decode cL_law 36 = .ok (.bipush 63, 2) := by decide +kernel
theorem dL_law_38 : decode cL_law 38 = .ok (.iand, 1) := by decide +kernel
theorem dL_law_39 : decode cL_law 39 = .ok (.tableswitch 1835 0 32 #[145, 236, 304, 367, 423, 491, 559, 651, 695, 708, 776, 832, 895, 975, 1031, 1099, 1167, 1223, 1236, 1304, 1360, 1373, 1429, 1470, 1526, 1582, 1638, 1694, 1707, 1720, 1764, 1808, 1821], 145) := by decide +kernel
theorem dL_law_184 : decode cL_law 184 = .ok (.aload_n 1, 1) := by decide +kernel
theorem dL_law_185 : decode cL_law 185 = .ok (.aload_n 0, 1) := by decide +kernel
theorem dL_law_186 : decode cL_law 186 = .ok (.iload 4, 2) := by decide +kernel
theorem dL_law_188 : decode cL_law 188 = .ok (.iconst 1, 1) := by decide +kernel
theorem dL_law_189 : decode cL_law 189 = .ok (.iadd, 1) := by decide +kernel
theorem dL_law_190 : decode cL_law 190 = .ok (.iaload, 1) := by decide +kernel
theorem dL_law_191 : decode cL_law 191 = .ok (.aload_n 0, 1) := by decide +kernel
theorem dL_law_192 : decode cL_law 192 = .ok (.iload 4, 2) := by decide +kernel
theorem dL_law_194 : decode cL_law 194 = .ok (.iconst 2, 1) := by decide +kernel
theorem dL_law_195 : decode cL_law 195 = .ok (.iadd, 1) := by decide +kernel
theorem dL_law_196 : decode cL_law 196 = .ok (.iaload, 1) := by decide +kernel
theorem dL_law_197 : decode cL_law 197 = .ok (.ifCond .eq 7, 3) := by decide +kernel
theorem dL_law_200 : decode cL_law 200 = .ok (.iconst 1, 1) := by decide +kernel
theorem dL_law_201 : decode cL_law 201 = .ok (.goto 4, 3) := by decide +kernel
theorem dL_law_204 : decode cL_law 204 = .ok (.iconst 0, 1) := by decide +kernel
theorem dL_law_205 : decode cL_law 205 = .ok (.aload_n 3, 1) := by decide +kernel
theorem dL_law_206 : decode cL_law 206 = .ok (.invokestatic 101, 3) := by decide +kernel
theorem dL_law_209 : decode cL_law 209 = .ok (.istore 5, 2) := by decide +kernel
theorem dL_law_211 : decode cL_law 211 = .ok (.aload_n 2, 1) := by decide +kernel
theorem dL_law_212 : decode cL_law 212 = .ok (.aload_n 0, 1) := by decide +kernel
theorem dL_law_213 : decode cL_law 213 = .ok (.iload 4, 2) := by decide +kernel
theorem dL_law_215 : decode cL_law 215 = .ok (.iconst 1, 1) := by decide +kernel
theorem dL_law_216 : decode cL_law 216 = .ok (.iadd, 1) := by decide +kernel
theorem dL_law_217 : decode cL_law 217 = .ok (.iaload, 1) := by decide +kernel
theorem dL_law_218 : decode cL_law 218 = .ok (.aload_n 0, 1) := by decide +kernel
theorem dL_law_219 : decode cL_law 219 = .ok (.iload 4, 2) := by decide +kernel
theorem dL_law_221 : decode cL_law 221 = .ok (.iconst 2, 1) := by decide +kernel
theorem dL_law_222 : decode cL_law 222 = .ok (.iadd, 1) := by decide +kernel
theorem dL_law_223 : decode cL_law 223 = .ok (.iaload, 1) := by decide +kernel
theorem dL_law_224 : decode cL_law 224 = .ok (.ifCond .eq 7, 3) := by decide +kernel
theorem dL_law_227 : decode cL_law 227 = .ok (.iconst 1, 1) := by decide +kernel
theorem dL_law_228 : decode cL_law 228 = .ok (.goto 4, 3) := by decide +kernel
theorem dL_law_231 : decode cL_law 231 = .ok (.iconst 0, 1) := by decide +kernel
theorem dL_law_232 : decode cL_law 232 = .ok (.invokevirtual 106, 3) := by decide +kernel
theorem dL_law_235 : decode cL_law 235 = .ok (.istore 6, 2) := by decide +kernel
theorem dL_law_237 : decode cL_law 237 = .ok (.aload_n 2, 1) := by decide +kernel
theorem dL_law_238 : decode cL_law 238 = .ok (.invokevirtual 107, 3) := by decide +kernel
theorem dL_law_241 : decode cL_law 241 = .ok (.iload 5, 2) := by decide +kernel
theorem dL_law_243 : decode cL_law 243 = .ok (.if_icmp .eq 5, 3) := by decide +kernel
theorem dL_law_246 : decode cL_law 246 = .ok (.iconst 0, 1) := by decide +kernel
theorem dL_law_247 : decode cL_law 247 = .ok (.ireturn, 1) := by decide +kernel
theorem dL_law_248 : decode cL_law 248 = .ok (.iload 5, 2) := by decide +kernel
theorem dL_law_250 : decode cL_law 250 = .ok (.ifCond .ne 22, 3) := by decide +kernel
theorem dL_law_253 : decode cL_law 253 = .ok (.aload_n 3, 1) := by decide +kernel
theorem dL_law_254 : decode cL_law 254 = .ok (.iconst 0, 1) := by decide +kernel
theorem dL_law_255 : decode cL_law 255 = .ok (.laload, 1) := by decide +kernel
theorem dL_law_256 : decode cL_law 256 = .ok (.iload 6, 2) := by decide +kernel
theorem dL_law_258 : decode cL_law 258 = .ok (.ifCond .eq 7, 3) := by decide +kernel
theorem dL_law_261 : decode cL_law 261 = .ok (.lconst 1, 1) := by decide +kernel
theorem dL_law_262 : decode cL_law 262 = .ok (.goto 4, 3) := by decide +kernel
theorem dL_law_265 : decode cL_law 265 = .ok (.lconst 0, 1) := by decide +kernel
theorem dL_law_266 : decode cL_law 266 = .ok (.lcmp, 1) := by decide +kernel
theorem dL_law_267 : decode cL_law 267 = .ok (.ifCond .eq 5, 3) := by decide +kernel
theorem dL_law_270 : decode cL_law 270 = .ok (.iconst 0, 1) := by decide +kernel
theorem dL_law_271 : decode cL_law 271 = .ok (.ireturn, 1) := by decide +kernel
theorem dL_law_272 : decode cL_law 272 = .ok (.goto 1602, 3) := by decide +kernel
theorem dL_law_275 : decode cL_law 275 = .ok (.aload_n 1, 1) := by decide +kernel
theorem dL_law_276 : decode cL_law 276 = .ok (.aload_n 0, 1) := by decide +kernel
theorem dL_law_277 : decode cL_law 277 = .ok (.iload 4, 2) := by decide +kernel
theorem dL_law_279 : decode cL_law 279 = .ok (.iconst 1, 1) := by decide +kernel
theorem dL_law_280 : decode cL_law 280 = .ok (.iadd, 1) := by decide +kernel
theorem dL_law_281 : decode cL_law 281 = .ok (.iaload, 1) := by decide +kernel
theorem dL_law_282 : decode cL_law 282 = .ok (.aload_n 0, 1) := by decide +kernel
theorem dL_law_283 : decode cL_law 283 = .ok (.iload 4, 2) := by decide +kernel
theorem dL_law_285 : decode cL_law 285 = .ok (.iconst 2, 1) := by decide +kernel
theorem dL_law_286 : decode cL_law 286 = .ok (.iadd, 1) := by decide +kernel
theorem dL_law_287 : decode cL_law 287 = .ok (.iaload, 1) := by decide +kernel
theorem dL_law_288 : decode cL_law 288 = .ok (.aload_n 3, 1) := by decide +kernel
theorem dL_law_289 : decode cL_law 289 = .ok (.invokestatic 110, 3) := by decide +kernel
theorem dL_law_292 : decode cL_law 292 = .ok (.istore 5, 2) := by decide +kernel
theorem dL_law_294 : decode cL_law 294 = .ok (.aload_n 2, 1) := by decide +kernel
theorem dL_law_295 : decode cL_law 295 = .ok (.aload_n 0, 1) := by decide +kernel
theorem dL_law_296 : decode cL_law 296 = .ok (.iload 4, 2) := by decide +kernel
theorem dL_law_298 : decode cL_law 298 = .ok (.iconst 1, 1) := by decide +kernel
theorem dL_law_299 : decode cL_law 299 = .ok (.iadd, 1) := by decide +kernel
theorem dL_law_300 : decode cL_law 300 = .ok (.iaload, 1) := by decide +kernel
theorem dL_law_301 : decode cL_law 301 = .ok (.aload_n 0, 1) := by decide +kernel
theorem dL_law_302 : decode cL_law 302 = .ok (.iload 4, 2) := by decide +kernel
theorem dL_law_304 : decode cL_law 304 = .ok (.iconst 2, 1) := by decide +kernel
theorem dL_law_305 : decode cL_law 305 = .ok (.iadd, 1) := by decide +kernel
theorem dL_law_306 : decode cL_law 306 = .ok (.iaload, 1) := by decide +kernel
theorem dL_law_307 : decode cL_law 307 = .ok (.invokevirtual 113, 3) := by decide +kernel
theorem dL_law_310 : decode cL_law 310 = .ok (.istore 6, 2) := by decide +kernel
theorem dL_law_312 : decode cL_law 312 = .ok (.aload_n 2, 1) := by decide +kernel
theorem dL_law_313 : decode cL_law 313 = .ok (.invokevirtual 107, 3) := by decide +kernel
theorem dL_law_316 : decode cL_law 316 = .ok (.iload 5, 2) := by decide +kernel
theorem dL_law_318 : decode cL_law 318 = .ok (.if_icmp .eq 5, 3) := by decide +kernel
theorem dL_law_321 : decode cL_law 321 = .ok (.iconst 0, 1) := by decide +kernel
theorem dL_law_322 : decode cL_law 322 = .ok (.ireturn, 1) := by decide +kernel
theorem dL_law_323 : decode cL_law 323 = .ok (.iload 5, 2) := by decide +kernel
theorem dL_law_325 : decode cL_law 325 = .ok (.ifCond .ne 15, 3) := by decide +kernel
theorem dL_law_328 : decode cL_law 328 = .ok (.aload_n 3, 1) := by decide +kernel
theorem dL_law_329 : decode cL_law 329 = .ok (.iconst 0, 1) := by decide +kernel
theorem dL_law_330 : decode cL_law 330 = .ok (.laload, 1) := by decide +kernel
theorem dL_law_331 : decode cL_law 331 = .ok (.iload 6, 2) := by decide +kernel
theorem dL_law_333 : decode cL_law 333 = .ok (.i2l, 1) := by decide +kernel
theorem dL_law_334 : decode cL_law 334 = .ok (.lcmp, 1) := by decide +kernel
theorem dL_law_335 : decode cL_law 335 = .ok (.ifCond .eq 5, 3) := by decide +kernel
theorem dL_law_338 : decode cL_law 338 = .ok (.iconst 0, 1) := by decide +kernel
theorem dL_law_339 : decode cL_law 339 = .ok (.ireturn, 1) := by decide +kernel
theorem dL_law_340 : decode cL_law 340 = .ok (.goto 1534, 3) := by decide +kernel
theorem dL_law_343 : decode cL_law 343 = .ok (.aload_n 1, 1) := by decide +kernel
theorem dL_law_344 : decode cL_law 344 = .ok (.aload_n 0, 1) := by decide +kernel
theorem dL_law_345 : decode cL_law 345 = .ok (.iload 4, 2) := by decide +kernel
theorem dL_law_347 : decode cL_law 347 = .ok (.iconst 1, 1) := by decide +kernel
theorem dL_law_348 : decode cL_law 348 = .ok (.iadd, 1) := by decide +kernel
theorem dL_law_349 : decode cL_law 349 = .ok (.iaload, 1) := by decide +kernel
theorem dL_law_350 : decode cL_law 350 = .ok (.aload_n 3, 1) := by decide +kernel
theorem dL_law_351 : decode cL_law 351 = .ok (.invokestatic 114, 3) := by decide +kernel
theorem dL_law_354 : decode cL_law 354 = .ok (.istore 5, 2) := by decide +kernel
theorem dL_law_356 : decode cL_law 356 = .ok (.aload_n 2, 1) := by decide +kernel
theorem dL_law_357 : decode cL_law 357 = .ok (.aload_n 0, 1) := by decide +kernel
theorem dL_law_358 : decode cL_law 358 = .ok (.iload 4, 2) := by decide +kernel
theorem dL_law_360 : decode cL_law 360 = .ok (.iconst 1, 1) := by decide +kernel
theorem dL_law_361 : decode cL_law 361 = .ok (.iadd, 1) := by decide +kernel
theorem dL_law_362 : decode cL_law 362 = .ok (.iaload, 1) := by decide +kernel
theorem dL_law_363 : decode cL_law 363 = .ok (.invokevirtual 117, 3) := by decide +kernel
theorem dL_law_366 : decode cL_law 366 = .ok (.istore 6, 2) := by decide +kernel
theorem dL_law_368 : decode cL_law 368 = .ok (.aload_n 2, 1) := by decide +kernel
theorem dL_law_369 : decode cL_law 369 = .ok (.invokevirtual 107, 3) := by decide +kernel
theorem dL_law_372 : decode cL_law 372 = .ok (.iload 5, 2) := by decide +kernel
theorem dL_law_374 : decode cL_law 374 = .ok (.if_icmp .eq 5, 3) := by decide +kernel
theorem dL_law_377 : decode cL_law 377 = .ok (.iconst 0, 1) := by decide +kernel
theorem dL_law_378 : decode cL_law 378 = .ok (.ireturn, 1) := by decide +kernel
theorem dL_law_379 : decode cL_law 379 = .ok (.iload 5, 2) := by decide +kernel
theorem dL_law_381 : decode cL_law 381 = .ok (.ifCond .ne 22, 3) := by decide +kernel
theorem dL_law_384 : decode cL_law 384 = .ok (.aload_n 3, 1) := by decide +kernel
theorem dL_law_385 : decode cL_law 385 = .ok (.iconst 0, 1) := by decide +kernel
theorem dL_law_386 : decode cL_law 386 = .ok (.laload, 1) := by decide +kernel
theorem dL_law_387 : decode cL_law 387 = .ok (.iload 6, 2) := by decide +kernel
theorem dL_law_389 : decode cL_law 389 = .ok (.ifCond .eq 7, 3) := by decide +kernel
theorem dL_law_392 : decode cL_law 392 = .ok (.lconst 1, 1) := by decide +kernel
theorem dL_law_393 : decode cL_law 393 = .ok (.goto 4, 3) := by decide +kernel
theorem dL_law_396 : decode cL_law 396 = .ok (.lconst 0, 1) := by decide +kernel
theorem dL_law_397 : decode cL_law 397 = .ok (.lcmp, 1) := by decide +kernel
theorem dL_law_398 : decode cL_law 398 = .ok (.ifCond .eq 5, 3) := by decide +kernel
theorem dL_law_401 : decode cL_law 401 = .ok (.iconst 0, 1) := by decide +kernel
theorem dL_law_402 : decode cL_law 402 = .ok (.ireturn, 1) := by decide +kernel
theorem dL_law_403 : decode cL_law 403 = .ok (.goto 1471, 3) := by decide +kernel
theorem dL_law_406 : decode cL_law 406 = .ok (.aload_n 1, 1) := by decide +kernel
theorem dL_law_407 : decode cL_law 407 = .ok (.aload_n 0, 1) := by decide +kernel
theorem dL_law_408 : decode cL_law 408 = .ok (.iload 4, 2) := by decide +kernel
theorem dL_law_410 : decode cL_law 410 = .ok (.iconst 1, 1) := by decide +kernel
theorem dL_law_411 : decode cL_law 411 = .ok (.iadd, 1) := by decide +kernel
theorem dL_law_412 : decode cL_law 412 = .ok (.iaload, 1) := by decide +kernel
theorem dL_law_413 : decode cL_law 413 = .ok (.aload_n 3, 1) := by decide +kernel
theorem dL_law_414 : decode cL_law 414 = .ok (.invokestatic 118, 3) := by decide +kernel
theorem dL_law_417 : decode cL_law 417 = .ok (.istore 5, 2) := by decide +kernel
theorem dL_law_419 : decode cL_law 419 = .ok (.aload_n 2, 1) := by decide +kernel
theorem dL_law_420 : decode cL_law 420 = .ok (.aload_n 0, 1) := by decide +kernel
theorem dL_law_421 : decode cL_law 421 = .ok (.iload 4, 2) := by decide +kernel
theorem dL_law_423 : decode cL_law 423 = .ok (.iconst 1, 1) := by decide +kernel
theorem dL_law_424 : decode cL_law 424 = .ok (.iadd, 1) := by decide +kernel
theorem dL_law_425 : decode cL_law 425 = .ok (.iaload, 1) := by decide +kernel
theorem dL_law_426 : decode cL_law 426 = .ok (.invokevirtual 120, 3) := by decide +kernel
theorem dL_law_429 : decode cL_law 429 = .ok (.istore 6, 2) := by decide +kernel
theorem dL_law_431 : decode cL_law 431 = .ok (.aload_n 2, 1) := by decide +kernel
theorem dL_law_432 : decode cL_law 432 = .ok (.invokevirtual 107, 3) := by decide +kernel
theorem dL_law_435 : decode cL_law 435 = .ok (.iload 5, 2) := by decide +kernel
theorem dL_law_437 : decode cL_law 437 = .ok (.if_icmp .eq 5, 3) := by decide +kernel
theorem dL_law_440 : decode cL_law 440 = .ok (.iconst 0, 1) := by decide +kernel
theorem dL_law_441 : decode cL_law 441 = .ok (.ireturn, 1) := by decide +kernel
theorem dL_law_442 : decode cL_law 442 = .ok (.iload 5, 2) := by decide +kernel
theorem dL_law_444 : decode cL_law 444 = .ok (.ifCond .ne 15, 3) := by decide +kernel
theorem dL_law_447 : decode cL_law 447 = .ok (.aload_n 3, 1) := by decide +kernel
theorem dL_law_448 : decode cL_law 448 = .ok (.iconst 0, 1) := by decide +kernel
theorem dL_law_449 : decode cL_law 449 = .ok (.laload, 1) := by decide +kernel
theorem dL_law_450 : decode cL_law 450 = .ok (.iload 6, 2) := by decide +kernel
theorem dL_law_452 : decode cL_law 452 = .ok (.i2l, 1) := by decide +kernel
theorem dL_law_453 : decode cL_law 453 = .ok (.lcmp, 1) := by decide +kernel
theorem dL_law_454 : decode cL_law 454 = .ok (.ifCond .eq 5, 3) := by decide +kernel
theorem dL_law_457 : decode cL_law 457 = .ok (.iconst 0, 1) := by decide +kernel
theorem dL_law_458 : decode cL_law 458 = .ok (.ireturn, 1) := by decide +kernel
theorem dL_law_459 : decode cL_law 459 = .ok (.goto 1415, 3) := by decide +kernel
theorem dL_law_462 : decode cL_law 462 = .ok (.aload_n 1, 1) := by decide +kernel
theorem dL_law_463 : decode cL_law 463 = .ok (.aload_n 0, 1) := by decide +kernel
theorem dL_law_464 : decode cL_law 464 = .ok (.iload 4, 2) := by decide +kernel
theorem dL_law_466 : decode cL_law 466 = .ok (.iconst 1, 1) := by decide +kernel
theorem dL_law_467 : decode cL_law 467 = .ok (.iadd, 1) := by decide +kernel
theorem dL_law_468 : decode cL_law 468 = .ok (.iaload, 1) := by decide +kernel
theorem dL_law_469 : decode cL_law 469 = .ok (.aload_n 0, 1) := by decide +kernel
theorem dL_law_470 : decode cL_law 470 = .ok (.iload 4, 2) := by decide +kernel
theorem dL_law_472 : decode cL_law 472 = .ok (.iconst 2, 1) := by decide +kernel
theorem dL_law_473 : decode cL_law 473 = .ok (.iadd, 1) := by decide +kernel
theorem dL_law_474 : decode cL_law 474 = .ok (.iaload, 1) := by decide +kernel
theorem dL_law_475 : decode cL_law 475 = .ok (.aload_n 3, 1) := by decide +kernel
theorem dL_law_476 : decode cL_law 476 = .ok (.invokestatic 121, 3) := by decide +kernel
theorem dL_law_479 : decode cL_law 479 = .ok (.istore 5, 2) := by decide +kernel
theorem dL_law_481 : decode cL_law 481 = .ok (.aload_n 2, 1) := by decide +kernel
theorem dL_law_482 : decode cL_law 482 = .ok (.aload_n 0, 1) := by decide +kernel
theorem dL_law_483 : decode cL_law 483 = .ok (.iload 4, 2) := by decide +kernel
theorem dL_law_485 : decode cL_law 485 = .ok (.iconst 1, 1) := by decide +kernel
theorem dL_law_486 : decode cL_law 486 = .ok (.iadd, 1) := by decide +kernel
theorem dL_law_487 : decode cL_law 487 = .ok (.iaload, 1) := by decide +kernel
theorem dL_law_488 : decode cL_law 488 = .ok (.aload_n 0, 1) := by decide +kernel
theorem dL_law_489 : decode cL_law 489 = .ok (.iload 4, 2) := by decide +kernel
theorem dL_law_491 : decode cL_law 491 = .ok (.iconst 2, 1) := by decide +kernel
theorem dL_law_492 : decode cL_law 492 = .ok (.iadd, 1) := by decide +kernel
theorem dL_law_493 : decode cL_law 493 = .ok (.iaload, 1) := by decide +kernel
theorem dL_law_494 : decode cL_law 494 = .ok (.invokevirtual 123, 3) := by decide +kernel
theorem dL_law_497 : decode cL_law 497 = .ok (.istore 6, 2) := by decide +kernel
theorem dL_law_499 : decode cL_law 499 = .ok (.aload_n 2, 1) := by decide +kernel
theorem dL_law_500 : decode cL_law 500 = .ok (.invokevirtual 107, 3) := by decide +kernel
theorem dL_law_503 : decode cL_law 503 = .ok (.iload 5, 2) := by decide +kernel
theorem dL_law_505 : decode cL_law 505 = .ok (.if_icmp .eq 5, 3) := by decide +kernel
theorem dL_law_508 : decode cL_law 508 = .ok (.iconst 0, 1) := by decide +kernel
theorem dL_law_509 : decode cL_law 509 = .ok (.ireturn, 1) := by decide +kernel
theorem dL_law_510 : decode cL_law 510 = .ok (.iload 5, 2) := by decide +kernel
theorem dL_law_512 : decode cL_law 512 = .ok (.ifCond .ne 15, 3) := by decide +kernel
theorem dL_law_515 : decode cL_law 515 = .ok (.aload_n 3, 1) := by decide +kernel
theorem dL_law_516 : decode cL_law 516 = .ok (.iconst 0, 1) := by decide +kernel
theorem dL_law_517 : decode cL_law 517 = .ok (.laload, 1) := by decide +kernel
theorem dL_law_518 : decode cL_law 518 = .ok (.iload 6, 2) := by decide +kernel
theorem dL_law_520 : decode cL_law 520 = .ok (.i2l, 1) := by decide +kernel
theorem dL_law_521 : decode cL_law 521 = .ok (.lcmp, 1) := by decide +kernel
theorem dL_law_522 : decode cL_law 522 = .ok (.ifCond .eq 5, 3) := by decide +kernel
theorem dL_law_525 : decode cL_law 525 = .ok (.iconst 0, 1) := by decide +kernel
theorem dL_law_526 : decode cL_law 526 = .ok (.ireturn, 1) := by decide +kernel
theorem dL_law_527 : decode cL_law 527 = .ok (.goto 1347, 3) := by decide +kernel
theorem dL_law_530 : decode cL_law 530 = .ok (.aload_n 1, 1) := by decide +kernel
theorem dL_law_531 : decode cL_law 531 = .ok (.aload_n 0, 1) := by decide +kernel
theorem dL_law_532 : decode cL_law 532 = .ok (.iload 4, 2) := by decide +kernel
theorem dL_law_534 : decode cL_law 534 = .ok (.iconst 1, 1) := by decide +kernel
theorem dL_law_535 : decode cL_law 535 = .ok (.iadd, 1) := by decide +kernel
theorem dL_law_536 : decode cL_law 536 = .ok (.iaload, 1) := by decide +kernel
theorem dL_law_537 : decode cL_law 537 = .ok (.aload_n 0, 1) := by decide +kernel
theorem dL_law_538 : decode cL_law 538 = .ok (.iload 4, 2) := by decide +kernel
theorem dL_law_540 : decode cL_law 540 = .ok (.iconst 2, 1) := by decide +kernel
theorem dL_law_541 : decode cL_law 541 = .ok (.iadd, 1) := by decide +kernel
theorem dL_law_542 : decode cL_law 542 = .ok (.iaload, 1) := by decide +kernel
theorem dL_law_543 : decode cL_law 543 = .ok (.aload_n 3, 1) := by decide +kernel
theorem dL_law_544 : decode cL_law 544 = .ok (.invokestatic 124, 3) := by decide +kernel
theorem dL_law_547 : decode cL_law 547 = .ok (.istore 5, 2) := by decide +kernel
theorem dL_law_549 : decode cL_law 549 = .ok (.aload_n 2, 1) := by decide +kernel
theorem dL_law_550 : decode cL_law 550 = .ok (.aload_n 0, 1) := by decide +kernel
theorem dL_law_551 : decode cL_law 551 = .ok (.iload 4, 2) := by decide +kernel
theorem dL_law_553 : decode cL_law 553 = .ok (.iconst 1, 1) := by decide +kernel
theorem dL_law_554 : decode cL_law 554 = .ok (.iadd, 1) := by decide +kernel
theorem dL_law_555 : decode cL_law 555 = .ok (.iaload, 1) := by decide +kernel
theorem dL_law_556 : decode cL_law 556 = .ok (.aload_n 0, 1) := by decide +kernel
theorem dL_law_557 : decode cL_law 557 = .ok (.iload 4, 2) := by decide +kernel
theorem dL_law_559 : decode cL_law 559 = .ok (.iconst 2, 1) := by decide +kernel
theorem dL_law_560 : decode cL_law 560 = .ok (.iadd, 1) := by decide +kernel
theorem dL_law_561 : decode cL_law 561 = .ok (.iaload, 1) := by decide +kernel
theorem dL_law_562 : decode cL_law 562 = .ok (.invokevirtual 126, 3) := by decide +kernel
theorem dL_law_565 : decode cL_law 565 = .ok (.istore 6, 2) := by decide +kernel
theorem dL_law_567 : decode cL_law 567 = .ok (.aload_n 2, 1) := by decide +kernel
theorem dL_law_568 : decode cL_law 568 = .ok (.invokevirtual 107, 3) := by decide +kernel
theorem dL_law_571 : decode cL_law 571 = .ok (.iload 5, 2) := by decide +kernel
theorem dL_law_573 : decode cL_law 573 = .ok (.if_icmp .eq 5, 3) := by decide +kernel
theorem dL_law_576 : decode cL_law 576 = .ok (.iconst 0, 1) := by decide +kernel
theorem dL_law_577 : decode cL_law 577 = .ok (.ireturn, 1) := by decide +kernel
theorem dL_law_578 : decode cL_law 578 = .ok (.iload 5, 2) := by decide +kernel
theorem dL_law_580 : decode cL_law 580 = .ok (.ifCond .ne 15, 3) := by decide +kernel
theorem dL_law_583 : decode cL_law 583 = .ok (.aload_n 3, 1) := by decide +kernel
theorem dL_law_584 : decode cL_law 584 = .ok (.iconst 0, 1) := by decide +kernel
theorem dL_law_585 : decode cL_law 585 = .ok (.laload, 1) := by decide +kernel
theorem dL_law_586 : decode cL_law 586 = .ok (.iload 6, 2) := by decide +kernel
theorem dL_law_588 : decode cL_law 588 = .ok (.i2l, 1) := by decide +kernel
theorem dL_law_589 : decode cL_law 589 = .ok (.lcmp, 1) := by decide +kernel
theorem dL_law_590 : decode cL_law 590 = .ok (.ifCond .eq 5, 3) := by decide +kernel
theorem dL_law_593 : decode cL_law 593 = .ok (.iconst 0, 1) := by decide +kernel
theorem dL_law_594 : decode cL_law 594 = .ok (.ireturn, 1) := by decide +kernel
theorem dL_law_595 : decode cL_law 595 = .ok (.goto 1279, 3) := by decide +kernel
theorem dL_law_598 : decode cL_law 598 = .ok (.aload_n 1, 1) := by decide +kernel
theorem dL_law_599 : decode cL_law 599 = .ok (.aload_n 0, 1) := by decide +kernel
theorem dL_law_600 : decode cL_law 600 = .ok (.iload 4, 2) := by decide +kernel
theorem dL_law_602 : decode cL_law 602 = .ok (.iconst 1, 1) := by decide +kernel
theorem dL_law_603 : decode cL_law 603 = .ok (.iadd, 1) := by decide +kernel
theorem dL_law_604 : decode cL_law 604 = .ok (.iaload, 1) := by decide +kernel
theorem dL_law_605 : decode cL_law 605 = .ok (.aload_n 0, 1) := by decide +kernel
theorem dL_law_606 : decode cL_law 606 = .ok (.iload 4, 2) := by decide +kernel
theorem dL_law_608 : decode cL_law 608 = .ok (.iconst 2, 1) := by decide +kernel
theorem dL_law_609 : decode cL_law 609 = .ok (.iadd, 1) := by decide +kernel
theorem dL_law_610 : decode cL_law 610 = .ok (.iaload, 1) := by decide +kernel
theorem dL_law_611 : decode cL_law 611 = .ok (.aload_n 0, 1) := by decide +kernel
theorem dL_law_612 : decode cL_law 612 = .ok (.iload 4, 2) := by decide +kernel
theorem dL_law_614 : decode cL_law 614 = .ok (.iconst 3, 1) := by decide +kernel
theorem dL_law_615 : decode cL_law 615 = .ok (.iadd, 1) := by decide +kernel
theorem dL_law_616 : decode cL_law 616 = .ok (.iaload, 1) := by decide +kernel
theorem dL_law_617 : decode cL_law 617 = .ok (.aload_n 0, 1) := by decide +kernel
theorem dL_law_618 : decode cL_law 618 = .ok (.iload 4, 2) := by decide +kernel
theorem dL_law_620 : decode cL_law 620 = .ok (.iconst 4, 1) := by decide +kernel
theorem dL_law_621 : decode cL_law 621 = .ok (.iadd, 1) := by decide +kernel
theorem dL_law_622 : decode cL_law 622 = .ok (.iaload, 1) := by decide +kernel
theorem dL_law_623 : decode cL_law 623 = .ok (.aload_n 3, 1) := by decide +kernel
theorem dL_law_624 : decode cL_law 624 = .ok (.invokestatic 127, 3) := by decide +kernel
theorem dL_law_627 : decode cL_law 627 = .ok (.istore 5, 2) := by decide +kernel
theorem dL_law_629 : decode cL_law 629 = .ok (.aload_n 2, 1) := by decide +kernel
theorem dL_law_630 : decode cL_law 630 = .ok (.aload_n 0, 1) := by decide +kernel
theorem dL_law_631 : decode cL_law 631 = .ok (.iload 4, 2) := by decide +kernel
theorem dL_law_633 : decode cL_law 633 = .ok (.iconst 1, 1) := by decide +kernel
theorem dL_law_634 : decode cL_law 634 = .ok (.iadd, 1) := by decide +kernel
theorem dL_law_635 : decode cL_law 635 = .ok (.iaload, 1) := by decide +kernel
theorem dL_law_636 : decode cL_law 636 = .ok (.aload_n 0, 1) := by decide +kernel
theorem dL_law_637 : decode cL_law 637 = .ok (.iload 4, 2) := by decide +kernel
theorem dL_law_639 : decode cL_law 639 = .ok (.iconst 2, 1) := by decide +kernel
theorem dL_law_640 : decode cL_law 640 = .ok (.iadd, 1) := by decide +kernel
theorem dL_law_641 : decode cL_law 641 = .ok (.iaload, 1) := by decide +kernel
theorem dL_law_642 : decode cL_law 642 = .ok (.aload_n 0, 1) := by decide +kernel
theorem dL_law_643 : decode cL_law 643 = .ok (.iload 4, 2) := by decide +kernel
theorem dL_law_645 : decode cL_law 645 = .ok (.iconst 3, 1) := by decide +kernel
theorem dL_law_646 : decode cL_law 646 = .ok (.iadd, 1) := by decide +kernel
theorem dL_law_647 : decode cL_law 647 = .ok (.iaload, 1) := by decide +kernel
theorem dL_law_648 : decode cL_law 648 = .ok (.aload_n 0, 1) := by decide +kernel
theorem dL_law_649 : decode cL_law 649 = .ok (.iload 4, 2) := by decide +kernel
theorem dL_law_651 : decode cL_law 651 = .ok (.iconst 4, 1) := by decide +kernel
theorem dL_law_652 : decode cL_law 652 = .ok (.iadd, 1) := by decide +kernel
theorem dL_law_653 : decode cL_law 653 = .ok (.iaload, 1) := by decide +kernel
theorem dL_law_654 : decode cL_law 654 = .ok (.invokevirtual 130, 3) := by decide +kernel
theorem dL_law_657 : decode cL_law 657 = .ok (.istore 6, 2) := by decide +kernel
theorem dL_law_659 : decode cL_law 659 = .ok (.aload_n 2, 1) := by decide +kernel
theorem dL_law_660 : decode cL_law 660 = .ok (.invokevirtual 107, 3) := by decide +kernel
theorem dL_law_663 : decode cL_law 663 = .ok (.iload 5, 2) := by decide +kernel
theorem dL_law_665 : decode cL_law 665 = .ok (.if_icmp .eq 5, 3) := by decide +kernel
theorem dL_law_668 : decode cL_law 668 = .ok (.iconst 0, 1) := by decide +kernel
theorem dL_law_669 : decode cL_law 669 = .ok (.ireturn, 1) := by decide +kernel
theorem dL_law_670 : decode cL_law 670 = .ok (.iload 5, 2) := by decide +kernel
theorem dL_law_672 : decode cL_law 672 = .ok (.ifCond .ne 15, 3) := by decide +kernel
theorem dL_law_675 : decode cL_law 675 = .ok (.aload_n 3, 1) := by decide +kernel
theorem dL_law_676 : decode cL_law 676 = .ok (.iconst 0, 1) := by decide +kernel
theorem dL_law_677 : decode cL_law 677 = .ok (.laload, 1) := by decide +kernel
theorem dL_law_678 : decode cL_law 678 = .ok (.iload 6, 2) := by decide +kernel
theorem dL_law_680 : decode cL_law 680 = .ok (.i2l, 1) := by decide +kernel
theorem dL_law_681 : decode cL_law 681 = .ok (.lcmp, 1) := by decide +kernel
theorem dL_law_682 : decode cL_law 682 = .ok (.ifCond .eq 5, 3) := by decide +kernel
theorem dL_law_685 : decode cL_law 685 = .ok (.iconst 0, 1) := by decide +kernel
theorem dL_law_686 : decode cL_law 686 = .ok (.ireturn, 1) := by decide +kernel
theorem dL_law_687 : decode cL_law 687 = .ok (.goto 1187, 3) := by decide +kernel
theorem dL_law_690 : decode cL_law 690 = .ok (.aload_n 1, 1) := by decide +kernel
theorem dL_law_691 : decode cL_law 691 = .ok (.aload_n 3, 1) := by decide +kernel
theorem dL_law_692 : decode cL_law 692 = .ok (.invokestatic 131, 3) := by decide +kernel
theorem dL_law_695 : decode cL_law 695 = .ok (.istore 5, 2) := by decide +kernel
theorem dL_law_697 : decode cL_law 697 = .ok (.aload_n 2, 1) := by decide +kernel
theorem dL_law_698 : decode cL_law 698 = .ok (.invokevirtual 134, 3) := by decide +kernel
theorem dL_law_701 : decode cL_law 701 = .ok (.istore 6, 2) := by decide +kernel
theorem dL_law_703 : decode cL_law 703 = .ok (.aload_n 2, 1) := by decide +kernel
theorem dL_law_704 : decode cL_law 704 = .ok (.invokevirtual 107, 3) := by decide +kernel
theorem dL_law_707 : decode cL_law 707 = .ok (.iload 5, 2) := by decide +kernel
theorem dL_law_709 : decode cL_law 709 = .ok (.if_icmp .eq 5, 3) := by decide +kernel
theorem dL_law_712 : decode cL_law 712 = .ok (.iconst 0, 1) := by decide +kernel
theorem dL_law_713 : decode cL_law 713 = .ok (.ireturn, 1) := by decide +kernel
theorem dL_law_714 : decode cL_law 714 = .ok (.iload 5, 2) := by decide +kernel
theorem dL_law_716 : decode cL_law 716 = .ok (.ifCond .ne 15, 3) := by decide +kernel
theorem dL_law_719 : decode cL_law 719 = .ok (.aload_n 3, 1) := by decide +kernel
theorem dL_law_720 : decode cL_law 720 = .ok (.iconst 0, 1) := by decide +kernel
theorem dL_law_721 : decode cL_law 721 = .ok (.laload, 1) := by decide +kernel
theorem dL_law_722 : decode cL_law 722 = .ok (.iload 6, 2) := by decide +kernel
theorem dL_law_724 : decode cL_law 724 = .ok (.i2l, 1) := by decide +kernel
theorem dL_law_725 : decode cL_law 725 = .ok (.lcmp, 1) := by decide +kernel
theorem dL_law_726 : decode cL_law 726 = .ok (.ifCond .eq 5, 3) := by decide +kernel
theorem dL_law_729 : decode cL_law 729 = .ok (.iconst 0, 1) := by decide +kernel
theorem dL_law_730 : decode cL_law 730 = .ok (.ireturn, 1) := by decide +kernel
theorem dL_law_731 : decode cL_law 731 = .ok (.goto 1143, 3) := by decide +kernel
theorem dL_law_734 : decode cL_law 734 = .ok (.aload_n 1, 1) := by decide +kernel
theorem dL_law_735 : decode cL_law 735 = .ok (.invokevirtual 135, 3) := by decide +kernel
theorem dL_law_738 : decode cL_law 738 = .ok (.aload_n 2, 1) := by decide +kernel
theorem dL_law_739 : decode cL_law 739 = .ok (.invokevirtual 138, 3) := by decide +kernel
theorem dL_law_742 : decode cL_law 742 = .ok (.if_icmp .eq 1132, 3) := by decide +kernel
theorem dL_law_745 : decode cL_law 745 = .ok (.iconst 0, 1) := by decide +kernel
theorem dL_law_746 : decode cL_law 746 = .ok (.ireturn, 1) := by decide +kernel
theorem dL_law_747 : decode cL_law 747 = .ok (.aload_n 1, 1) := by decide +kernel
theorem dL_law_748 : decode cL_law 748 = .ok (.aload_n 0, 1) := by decide +kernel
theorem dL_law_749 : decode cL_law 749 = .ok (.iload 4, 2) := by decide +kernel
theorem dL_law_751 : decode cL_law 751 = .ok (.iconst 1, 1) := by decide +kernel
theorem dL_law_752 : decode cL_law 752 = .ok (.iadd, 1) := by decide +kernel
theorem dL_law_753 : decode cL_law 753 = .ok (.iaload, 1) := by decide +kernel
theorem dL_law_754 : decode cL_law 754 = .ok (.aload_n 0, 1) := by decide +kernel
theorem dL_law_755 : decode cL_law 755 = .ok (.iload 4, 2) := by decide +kernel
theorem dL_law_757 : decode cL_law 757 = .ok (.iconst 2, 1) := by decide +kernel
theorem dL_law_758 : decode cL_law 758 = .ok (.iadd, 1) := by decide +kernel
theorem dL_law_759 : decode cL_law 759 = .ok (.iaload, 1) := by decide +kernel
theorem dL_law_760 : decode cL_law 760 = .ok (.aload_n 3, 1) := by decide +kernel
theorem dL_law_761 : decode cL_law 761 = .ok (.invokestatic 139, 3) := by decide +kernel
theorem dL_law_764 : decode cL_law 764 = .ok (.istore 5, 2) := by decide +kernel
theorem dL_law_766 : decode cL_law 766 = .ok (.aload_n 2, 1) := by decide +kernel
theorem dL_law_767 : decode cL_law 767 = .ok (.aload_n 0, 1) := by decide +kernel
theorem dL_law_768 : decode cL_law 768 = .ok (.iload 4, 2) := by decide +kernel
theorem dL_law_770 : decode cL_law 770 = .ok (.iconst 1, 1) := by decide +kernel
theorem dL_law_771 : decode cL_law 771 = .ok (.iadd, 1) := by decide +kernel
theorem dL_law_772 : decode cL_law 772 = .ok (.iaload, 1) := by decide +kernel
theorem dL_law_773 : decode cL_law 773 = .ok (.aload_n 0, 1) := by decide +kernel
theorem dL_law_774 : decode cL_law 774 = .ok (.iload 4, 2) := by decide +kernel
theorem dL_law_776 : decode cL_law 776 = .ok (.iconst 2, 1) := by decide +kernel
theorem dL_law_777 : decode cL_law 777 = .ok (.iadd, 1) := by decide +kernel
theorem dL_law_778 : decode cL_law 778 = .ok (.iaload, 1) := by decide +kernel
theorem dL_law_779 : decode cL_law 779 = .ok (.invokevirtual 141, 3) := by decide +kernel
theorem dL_law_782 : decode cL_law 782 = .ok (.istore 6, 2) := by decide +kernel
theorem dL_law_784 : decode cL_law 784 = .ok (.aload_n 2, 1) := by decide +kernel
theorem dL_law_785 : decode cL_law 785 = .ok (.invokevirtual 107, 3) := by decide +kernel
theorem dL_law_788 : decode cL_law 788 = .ok (.iload 5, 2) := by decide +kernel
theorem dL_law_790 : decode cL_law 790 = .ok (.if_icmp .eq 5, 3) := by decide +kernel
theorem dL_law_793 : decode cL_law 793 = .ok (.iconst 0, 1) := by decide +kernel
theorem dL_law_794 : decode cL_law 794 = .ok (.ireturn, 1) := by decide +kernel
theorem dL_law_795 : decode cL_law 795 = .ok (.iload 5, 2) := by decide +kernel
theorem dL_law_797 : decode cL_law 797 = .ok (.ifCond .ne 15, 3) := by decide +kernel
theorem dL_law_800 : decode cL_law 800 = .ok (.aload_n 3, 1) := by decide +kernel
theorem dL_law_801 : decode cL_law 801 = .ok (.iconst 0, 1) := by decide +kernel
theorem dL_law_802 : decode cL_law 802 = .ok (.laload, 1) := by decide +kernel
theorem dL_law_803 : decode cL_law 803 = .ok (.iload 6, 2) := by decide +kernel
theorem dL_law_805 : decode cL_law 805 = .ok (.i2l, 1) := by decide +kernel
theorem dL_law_806 : decode cL_law 806 = .ok (.lcmp, 1) := by decide +kernel
theorem dL_law_807 : decode cL_law 807 = .ok (.ifCond .eq 5, 3) := by decide +kernel
theorem dL_law_810 : decode cL_law 810 = .ok (.iconst 0, 1) := by decide +kernel
theorem dL_law_811 : decode cL_law 811 = .ok (.ireturn, 1) := by decide +kernel
theorem dL_law_812 : decode cL_law 812 = .ok (.goto 1062, 3) := by decide +kernel
theorem dL_law_815 : decode cL_law 815 = .ok (.aload_n 1, 1) := by decide +kernel
theorem dL_law_816 : decode cL_law 816 = .ok (.aload_n 0, 1) := by decide +kernel
theorem dL_law_817 : decode cL_law 817 = .ok (.iload 4, 2) := by decide +kernel
theorem dL_law_819 : decode cL_law 819 = .ok (.iconst 1, 1) := by decide +kernel
theorem dL_law_820 : decode cL_law 820 = .ok (.iadd, 1) := by decide +kernel
theorem dL_law_821 : decode cL_law 821 = .ok (.iaload, 1) := by decide +kernel
theorem dL_law_822 : decode cL_law 822 = .ok (.aload_n 3, 1) := by decide +kernel
theorem dL_law_823 : decode cL_law 823 = .ok (.invokestatic 142, 3) := by decide +kernel
theorem dL_law_826 : decode cL_law 826 = .ok (.istore 5, 2) := by decide +kernel
theorem dL_law_828 : decode cL_law 828 = .ok (.aload_n 2, 1) := by decide +kernel
theorem dL_law_829 : decode cL_law 829 = .ok (.aload_n 0, 1) := by decide +kernel
theorem dL_law_830 : decode cL_law 830 = .ok (.iload 4, 2) := by decide +kernel
theorem dL_law_832 : decode cL_law 832 = .ok (.iconst 1, 1) := by decide +kernel
theorem dL_law_833 : decode cL_law 833 = .ok (.iadd, 1) := by decide +kernel
theorem dL_law_834 : decode cL_law 834 = .ok (.iaload, 1) := by decide +kernel
theorem dL_law_835 : decode cL_law 835 = .ok (.invokevirtual 144, 3) := by decide +kernel
theorem dL_law_838 : decode cL_law 838 = .ok (.istore 6, 2) := by decide +kernel
theorem dL_law_840 : decode cL_law 840 = .ok (.aload_n 2, 1) := by decide +kernel
theorem dL_law_841 : decode cL_law 841 = .ok (.invokevirtual 107, 3) := by decide +kernel
theorem dL_law_844 : decode cL_law 844 = .ok (.iload 5, 2) := by decide +kernel
theorem dL_law_846 : decode cL_law 846 = .ok (.if_icmp .eq 5, 3) := by decide +kernel
theorem dL_law_849 : decode cL_law 849 = .ok (.iconst 0, 1) := by decide +kernel
theorem dL_law_850 : decode cL_law 850 = .ok (.ireturn, 1) := by decide +kernel
theorem dL_law_851 : decode cL_law 851 = .ok (.iload 5, 2) := by decide +kernel
theorem dL_law_853 : decode cL_law 853 = .ok (.ifCond .ne 15, 3) := by decide +kernel
theorem dL_law_856 : decode cL_law 856 = .ok (.aload_n 3, 1) := by decide +kernel
theorem dL_law_857 : decode cL_law 857 = .ok (.iconst 0, 1) := by decide +kernel
theorem dL_law_858 : decode cL_law 858 = .ok (.laload, 1) := by decide +kernel
theorem dL_law_859 : decode cL_law 859 = .ok (.iload 6, 2) := by decide +kernel
theorem dL_law_861 : decode cL_law 861 = .ok (.i2l, 1) := by decide +kernel
theorem dL_law_862 : decode cL_law 862 = .ok (.lcmp, 1) := by decide +kernel
theorem dL_law_863 : decode cL_law 863 = .ok (.ifCond .eq 5, 3) := by decide +kernel
theorem dL_law_866 : decode cL_law 866 = .ok (.iconst 0, 1) := by decide +kernel
theorem dL_law_867 : decode cL_law 867 = .ok (.ireturn, 1) := by decide +kernel
theorem dL_law_868 : decode cL_law 868 = .ok (.goto 1006, 3) := by decide +kernel
theorem dL_law_871 : decode cL_law 871 = .ok (.aload_n 1, 1) := by decide +kernel
theorem dL_law_872 : decode cL_law 872 = .ok (.aload_n 0, 1) := by decide +kernel
theorem dL_law_873 : decode cL_law 873 = .ok (.iload 4, 2) := by decide +kernel
theorem dL_law_875 : decode cL_law 875 = .ok (.iconst 1, 1) := by decide +kernel
theorem dL_law_876 : decode cL_law 876 = .ok (.iadd, 1) := by decide +kernel
theorem dL_law_877 : decode cL_law 877 = .ok (.iaload, 1) := by decide +kernel
theorem dL_law_878 : decode cL_law 878 = .ok (.aload_n 3, 1) := by decide +kernel
theorem dL_law_879 : decode cL_law 879 = .ok (.invokestatic 145, 3) := by decide +kernel
theorem dL_law_882 : decode cL_law 882 = .ok (.istore 5, 2) := by decide +kernel
theorem dL_law_884 : decode cL_law 884 = .ok (.aload_n 2, 1) := by decide +kernel
theorem dL_law_885 : decode cL_law 885 = .ok (.aload_n 0, 1) := by decide +kernel
theorem dL_law_886 : decode cL_law 886 = .ok (.iload 4, 2) := by decide +kernel
theorem dL_law_888 : decode cL_law 888 = .ok (.iconst 1, 1) := by decide +kernel
theorem dL_law_889 : decode cL_law 889 = .ok (.iadd, 1) := by decide +kernel
theorem dL_law_890 : decode cL_law 890 = .ok (.iaload, 1) := by decide +kernel
theorem dL_law_891 : decode cL_law 891 = .ok (.invokevirtual 147, 3) := by decide +kernel
theorem dL_law_894 : decode cL_law 894 = .ok (.istore 6, 2) := by decide +kernel
theorem dL_law_896 : decode cL_law 896 = .ok (.aload_n 2, 1) := by decide +kernel
theorem dL_law_897 : decode cL_law 897 = .ok (.invokevirtual 107, 3) := by decide +kernel
theorem dL_law_900 : decode cL_law 900 = .ok (.iload 5, 2) := by decide +kernel
theorem dL_law_902 : decode cL_law 902 = .ok (.if_icmp .eq 5, 3) := by decide +kernel
theorem dL_law_905 : decode cL_law 905 = .ok (.iconst 0, 1) := by decide +kernel
theorem dL_law_906 : decode cL_law 906 = .ok (.ireturn, 1) := by decide +kernel
theorem dL_law_907 : decode cL_law 907 = .ok (.iload 5, 2) := by decide +kernel
theorem dL_law_909 : decode cL_law 909 = .ok (.ifCond .ne 22, 3) := by decide +kernel
theorem dL_law_912 : decode cL_law 912 = .ok (.aload_n 3, 1) := by decide +kernel
theorem dL_law_913 : decode cL_law 913 = .ok (.iconst 0, 1) := by decide +kernel
theorem dL_law_914 : decode cL_law 914 = .ok (.laload, 1) := by decide +kernel
theorem dL_law_915 : decode cL_law 915 = .ok (.iload 6, 2) := by decide +kernel
theorem dL_law_917 : decode cL_law 917 = .ok (.ifCond .eq 7, 3) := by decide +kernel
theorem dL_law_920 : decode cL_law 920 = .ok (.lconst 1, 1) := by decide +kernel
theorem dL_law_921 : decode cL_law 921 = .ok (.goto 4, 3) := by decide +kernel
theorem dL_law_924 : decode cL_law 924 = .ok (.lconst 0, 1) := by decide +kernel
theorem dL_law_925 : decode cL_law 925 = .ok (.lcmp, 1) := by decide +kernel
theorem dL_law_926 : decode cL_law 926 = .ok (.ifCond .eq 5, 3) := by decide +kernel
theorem dL_law_929 : decode cL_law 929 = .ok (.iconst 0, 1) := by decide +kernel
theorem dL_law_930 : decode cL_law 930 = .ok (.ireturn, 1) := by decide +kernel
theorem dL_law_931 : decode cL_law 931 = .ok (.goto 943, 3) := by decide +kernel
theorem dL_law_934 : decode cL_law 934 = .ok (.aload_n 1, 1) := by decide +kernel
theorem dL_law_935 : decode cL_law 935 = .ok (.aload_n 0, 1) := by decide +kernel
theorem dL_law_936 : decode cL_law 936 = .ok (.iload 4, 2) := by decide +kernel
theorem dL_law_938 : decode cL_law 938 = .ok (.iconst 1, 1) := by decide +kernel
theorem dL_law_939 : decode cL_law 939 = .ok (.iadd, 1) := by decide +kernel
theorem dL_law_940 : decode cL_law 940 = .ok (.iaload, 1) := by decide +kernel
theorem dL_law_941 : decode cL_law 941 = .ok (.aload_n 0, 1) := by decide +kernel
theorem dL_law_942 : decode cL_law 942 = .ok (.iload 4, 2) := by decide +kernel
theorem dL_law_944 : decode cL_law 944 = .ok (.iconst 2, 1) := by decide +kernel
theorem dL_law_945 : decode cL_law 945 = .ok (.iadd, 1) := by decide +kernel
theorem dL_law_946 : decode cL_law 946 = .ok (.iaload, 1) := by decide +kernel
theorem dL_law_947 : decode cL_law 947 = .ok (.aload_n 0, 1) := by decide +kernel
theorem dL_law_948 : decode cL_law 948 = .ok (.iload 4, 2) := by decide +kernel
theorem dL_law_950 : decode cL_law 950 = .ok (.iconst 3, 1) := by decide +kernel
theorem dL_law_951 : decode cL_law 951 = .ok (.iadd, 1) := by decide +kernel
theorem dL_law_952 : decode cL_law 952 = .ok (.iaload, 1) := by decide +kernel
theorem dL_law_953 : decode cL_law 953 = .ok (.aload_n 3, 1) := by decide +kernel
theorem dL_law_954 : decode cL_law 954 = .ok (.invokestatic 148, 3) := by decide +kernel
theorem dL_law_957 : decode cL_law 957 = .ok (.istore 5, 2) := by decide +kernel
theorem dL_law_959 : decode cL_law 959 = .ok (.aload_n 2, 1) := by decide +kernel
theorem dL_law_960 : decode cL_law 960 = .ok (.aload_n 0, 1) := by decide +kernel
theorem dL_law_961 : decode cL_law 961 = .ok (.iload 4, 2) := by decide +kernel
theorem dL_law_963 : decode cL_law 963 = .ok (.iconst 1, 1) := by decide +kernel
theorem dL_law_964 : decode cL_law 964 = .ok (.iadd, 1) := by decide +kernel
theorem dL_law_965 : decode cL_law 965 = .ok (.iaload, 1) := by decide +kernel
theorem dL_law_966 : decode cL_law 966 = .ok (.aload_n 0, 1) := by decide +kernel
theorem dL_law_967 : decode cL_law 967 = .ok (.iload 4, 2) := by decide +kernel
theorem dL_law_969 : decode cL_law 969 = .ok (.iconst 2, 1) := by decide +kernel
theorem dL_law_970 : decode cL_law 970 = .ok (.iadd, 1) := by decide +kernel
theorem dL_law_971 : decode cL_law 971 = .ok (.iaload, 1) := by decide +kernel
theorem dL_law_972 : decode cL_law 972 = .ok (.aload_n 0, 1) := by decide +kernel
theorem dL_law_973 : decode cL_law 973 = .ok (.iload 4, 2) := by decide +kernel
theorem dL_law_975 : decode cL_law 975 = .ok (.iconst 3, 1) := by decide +kernel
theorem dL_law_976 : decode cL_law 976 = .ok (.iadd, 1) := by decide +kernel
theorem dL_law_977 : decode cL_law 977 = .ok (.iaload, 1) := by decide +kernel
theorem dL_law_978 : decode cL_law 978 = .ok (.invokevirtual 151, 3) := by decide +kernel
theorem dL_law_981 : decode cL_law 981 = .ok (.istore 6, 2) := by decide +kernel
theorem dL_law_983 : decode cL_law 983 = .ok (.aload_n 2, 1) := by decide +kernel
theorem dL_law_984 : decode cL_law 984 = .ok (.invokevirtual 107, 3) := by decide +kernel
theorem dL_law_987 : decode cL_law 987 = .ok (.iload 5, 2) := by decide +kernel
theorem dL_law_989 : decode cL_law 989 = .ok (.if_icmp .eq 5, 3) := by decide +kernel
theorem dL_law_992 : decode cL_law 992 = .ok (.iconst 0, 1) := by decide +kernel
theorem dL_law_993 : decode cL_law 993 = .ok (.ireturn, 1) := by decide +kernel
theorem dL_law_994 : decode cL_law 994 = .ok (.iload 5, 2) := by decide +kernel
theorem dL_law_996 : decode cL_law 996 = .ok (.ifCond .ne 15, 3) := by decide +kernel
theorem dL_law_999 : decode cL_law 999 = .ok (.aload_n 3, 1) := by decide +kernel
theorem dL_law_1000 : decode cL_law 1000 = .ok (.iconst 0, 1) := by decide +kernel
theorem dL_law_1001 : decode cL_law 1001 = .ok (.laload, 1) := by decide +kernel
theorem dL_law_1002 : decode cL_law 1002 = .ok (.iload 6, 2) := by decide +kernel
theorem dL_law_1004 : decode cL_law 1004 = .ok (.i2l, 1) := by decide +kernel
theorem dL_law_1005 : decode cL_law 1005 = .ok (.lcmp, 1) := by decide +kernel
theorem dL_law_1006 : decode cL_law 1006 = .ok (.ifCond .eq 5, 3) := by decide +kernel
theorem dL_law_1009 : decode cL_law 1009 = .ok (.iconst 0, 1) := by decide +kernel
theorem dL_law_1010 : decode cL_law 1010 = .ok (.ireturn, 1) := by decide +kernel
theorem dL_law_1011 : decode cL_law 1011 = .ok (.goto 863, 3) := by decide +kernel
theorem dL_law_1014 : decode cL_law 1014 = .ok (.aload_n 1, 1) := by decide +kernel
theorem dL_law_1015 : decode cL_law 1015 = .ok (.aload_n 0, 1) := by decide +kernel
theorem dL_law_1016 : decode cL_law 1016 = .ok (.iload 4, 2) := by decide +kernel
theorem dL_law_1018 : decode cL_law 1018 = .ok (.iconst 1, 1) := by decide +kernel
theorem dL_law_1019 : decode cL_law 1019 = .ok (.iadd, 1) := by decide +kernel
theorem dL_law_1020 : decode cL_law 1020 = .ok (.iaload, 1) := by decide +kernel
theorem dL_law_1021 : decode cL_law 1021 = .ok (.aload_n 3, 1) := by decide +kernel
theorem dL_law_1022 : decode cL_law 1022 = .ok (.invokestatic 152, 3) := by decide +kernel
theorem dL_law_1025 : decode cL_law 1025 = .ok (.istore 5, 2) := by decide +kernel
theorem dL_law_1027 : decode cL_law 1027 = .ok (.aload_n 2, 1) := by decide +kernel
theorem dL_law_1028 : decode cL_law 1028 = .ok (.aload_n 0, 1) := by decide +kernel
theorem dL_law_1029 : decode cL_law 1029 = .ok (.iload 4, 2) := by decide +kernel
theorem dL_law_1031 : decode cL_law 1031 = .ok (.iconst 1, 1) := by decide +kernel
theorem dL_law_1032 : decode cL_law 1032 = .ok (.iadd, 1) := by decide +kernel
theorem dL_law_1033 : decode cL_law 1033 = .ok (.iaload, 1) := by decide +kernel
theorem dL_law_1034 : decode cL_law 1034 = .ok (.invokevirtual 154, 3) := by decide +kernel
theorem dL_law_1037 : decode cL_law 1037 = .ok (.istore 6, 2) := by decide +kernel
theorem dL_law_1039 : decode cL_law 1039 = .ok (.aload_n 2, 1) := by decide +kernel
theorem dL_law_1040 : decode cL_law 1040 = .ok (.invokevirtual 107, 3) := by decide +kernel
theorem dL_law_1043 : decode cL_law 1043 = .ok (.iload 5, 2) := by decide +kernel
theorem dL_law_1045 : decode cL_law 1045 = .ok (.if_icmp .eq 5, 3) := by decide +kernel
theorem dL_law_1048 : decode cL_law 1048 = .ok (.iconst 0, 1) := by decide +kernel
theorem dL_law_1049 : decode cL_law 1049 = .ok (.ireturn, 1) := by decide +kernel
theorem dL_law_1050 : decode cL_law 1050 = .ok (.iload 5, 2) := by decide +kernel
theorem dL_law_1052 : decode cL_law 1052 = .ok (.ifCond .ne 15, 3) := by decide +kernel
theorem dL_law_1055 : decode cL_law 1055 = .ok (.aload_n 3, 1) := by decide +kernel
theorem dL_law_1056 : decode cL_law 1056 = .ok (.iconst 0, 1) := by decide +kernel
theorem dL_law_1057 : decode cL_law 1057 = .ok (.laload, 1) := by decide +kernel
theorem dL_law_1058 : decode cL_law 1058 = .ok (.iload 6, 2) := by decide +kernel
theorem dL_law_1060 : decode cL_law 1060 = .ok (.i2l, 1) := by decide +kernel
theorem dL_law_1061 : decode cL_law 1061 = .ok (.lcmp, 1) := by decide +kernel
theorem dL_law_1062 : decode cL_law 1062 = .ok (.ifCond .eq 5, 3) := by decide +kernel
theorem dL_law_1065 : decode cL_law 1065 = .ok (.iconst 0, 1) := by decide +kernel
theorem dL_law_1066 : decode cL_law 1066 = .ok (.ireturn, 1) := by decide +kernel
theorem dL_law_1067 : decode cL_law 1067 = .ok (.goto 807, 3) := by decide +kernel
theorem dL_law_1070 : decode cL_law 1070 = .ok (.aload_n 1, 1) := by decide +kernel
theorem dL_law_1071 : decode cL_law 1071 = .ok (.aload_n 0, 1) := by decide +kernel
theorem dL_law_1072 : decode cL_law 1072 = .ok (.iload 4, 2) := by decide +kernel
theorem dL_law_1074 : decode cL_law 1074 = .ok (.iconst 1, 1) := by decide +kernel
theorem dL_law_1075 : decode cL_law 1075 = .ok (.iadd, 1) := by decide +kernel
theorem dL_law_1076 : decode cL_law 1076 = .ok (.iaload, 1) := by decide +kernel
theorem dL_law_1077 : decode cL_law 1077 = .ok (.aload_n 0, 1) := by decide +kernel
theorem dL_law_1078 : decode cL_law 1078 = .ok (.iload 4, 2) := by decide +kernel
theorem dL_law_1080 : decode cL_law 1080 = .ok (.iconst 2, 1) := by decide +kernel
theorem dL_law_1081 : decode cL_law 1081 = .ok (.iadd, 1) := by decide +kernel
theorem dL_law_1082 : decode cL_law 1082 = .ok (.iaload, 1) := by decide +kernel
theorem dL_law_1083 : decode cL_law 1083 = .ok (.aload_n 3, 1) := by decide +kernel
theorem dL_law_1084 : decode cL_law 1084 = .ok (.invokestatic 155, 3) := by decide +kernel
theorem dL_law_1087 : decode cL_law 1087 = .ok (.istore 5, 2) := by decide +kernel
theorem dL_law_1089 : decode cL_law 1089 = .ok (.aload_n 2, 1) := by decide +kernel
theorem dL_law_1090 : decode cL_law 1090 = .ok (.aload_n 0, 1) := by decide +kernel
theorem dL_law_1091 : decode cL_law 1091 = .ok (.iload 4, 2) := by decide +kernel
theorem dL_law_1093 : decode cL_law 1093 = .ok (.iconst 1, 1) := by decide +kernel
theorem dL_law_1094 : decode cL_law 1094 = .ok (.iadd, 1) := by decide +kernel
theorem dL_law_1095 : decode cL_law 1095 = .ok (.iaload, 1) := by decide +kernel
theorem dL_law_1096 : decode cL_law 1096 = .ok (.aload_n 0, 1) := by decide +kernel
theorem dL_law_1097 : decode cL_law 1097 = .ok (.iload 4, 2) := by decide +kernel
theorem dL_law_1099 : decode cL_law 1099 = .ok (.iconst 2, 1) := by decide +kernel
theorem dL_law_1100 : decode cL_law 1100 = .ok (.iadd, 1) := by decide +kernel
theorem dL_law_1101 : decode cL_law 1101 = .ok (.iaload, 1) := by decide +kernel
theorem dL_law_1102 : decode cL_law 1102 = .ok (.invokevirtual 157, 3) := by decide +kernel
theorem dL_law_1105 : decode cL_law 1105 = .ok (.istore 6, 2) := by decide +kernel
theorem dL_law_1107 : decode cL_law 1107 = .ok (.aload_n 2, 1) := by decide +kernel
theorem dL_law_1108 : decode cL_law 1108 = .ok (.invokevirtual 107, 3) := by decide +kernel
theorem dL_law_1111 : decode cL_law 1111 = .ok (.iload 5, 2) := by decide +kernel
theorem dL_law_1113 : decode cL_law 1113 = .ok (.if_icmp .eq 5, 3) := by decide +kernel
theorem dL_law_1116 : decode cL_law 1116 = .ok (.iconst 0, 1) := by decide +kernel
theorem dL_law_1117 : decode cL_law 1117 = .ok (.ireturn, 1) := by decide +kernel
theorem dL_law_1118 : decode cL_law 1118 = .ok (.iload 5, 2) := by decide +kernel
theorem dL_law_1120 : decode cL_law 1120 = .ok (.ifCond .ne 15, 3) := by decide +kernel
theorem dL_law_1123 : decode cL_law 1123 = .ok (.aload_n 3, 1) := by decide +kernel
theorem dL_law_1124 : decode cL_law 1124 = .ok (.iconst 0, 1) := by decide +kernel
theorem dL_law_1125 : decode cL_law 1125 = .ok (.laload, 1) := by decide +kernel
theorem dL_law_1126 : decode cL_law 1126 = .ok (.iload 6, 2) := by decide +kernel
theorem dL_law_1128 : decode cL_law 1128 = .ok (.i2l, 1) := by decide +kernel
theorem dL_law_1129 : decode cL_law 1129 = .ok (.lcmp, 1) := by decide +kernel
theorem dL_law_1130 : decode cL_law 1130 = .ok (.ifCond .eq 5, 3) := by decide +kernel
theorem dL_law_1133 : decode cL_law 1133 = .ok (.iconst 0, 1) := by decide +kernel
theorem dL_law_1134 : decode cL_law 1134 = .ok (.ireturn, 1) := by decide +kernel
theorem dL_law_1135 : decode cL_law 1135 = .ok (.goto 739, 3) := by decide +kernel
theorem dL_law_1138 : decode cL_law 1138 = .ok (.aload_n 1, 1) := by decide +kernel
theorem dL_law_1139 : decode cL_law 1139 = .ok (.aload_n 0, 1) := by decide +kernel
theorem dL_law_1140 : decode cL_law 1140 = .ok (.iload 4, 2) := by decide +kernel
theorem dL_law_1142 : decode cL_law 1142 = .ok (.iconst 1, 1) := by decide +kernel
theorem dL_law_1143 : decode cL_law 1143 = .ok (.iadd, 1) := by decide +kernel
theorem dL_law_1144 : decode cL_law 1144 = .ok (.iaload, 1) := by decide +kernel
theorem dL_law_1145 : decode cL_law 1145 = .ok (.aload_n 0, 1) := by decide +kernel
theorem dL_law_1146 : decode cL_law 1146 = .ok (.iload 4, 2) := by decide +kernel
theorem dL_law_1148 : decode cL_law 1148 = .ok (.iconst 2, 1) := by decide +kernel
theorem dL_law_1149 : decode cL_law 1149 = .ok (.iadd, 1) := by decide +kernel
theorem dL_law_1150 : decode cL_law 1150 = .ok (.iaload, 1) := by decide +kernel
theorem dL_law_1151 : decode cL_law 1151 = .ok (.aload_n 3, 1) := by decide +kernel
theorem dL_law_1152 : decode cL_law 1152 = .ok (.invokestatic 158, 3) := by decide +kernel
theorem dL_law_1155 : decode cL_law 1155 = .ok (.istore 5, 2) := by decide +kernel
theorem dL_law_1157 : decode cL_law 1157 = .ok (.aload_n 2, 1) := by decide +kernel
theorem dL_law_1158 : decode cL_law 1158 = .ok (.aload_n 0, 1) := by decide +kernel
theorem dL_law_1159 : decode cL_law 1159 = .ok (.iload 4, 2) := by decide +kernel
theorem dL_law_1161 : decode cL_law 1161 = .ok (.iconst 1, 1) := by decide +kernel
theorem dL_law_1162 : decode cL_law 1162 = .ok (.iadd, 1) := by decide +kernel
theorem dL_law_1163 : decode cL_law 1163 = .ok (.iaload, 1) := by decide +kernel
theorem dL_law_1164 : decode cL_law 1164 = .ok (.aload_n 0, 1) := by decide +kernel
theorem dL_law_1165 : decode cL_law 1165 = .ok (.iload 4, 2) := by decide +kernel
theorem dL_law_1167 : decode cL_law 1167 = .ok (.iconst 2, 1) := by decide +kernel
theorem dL_law_1168 : decode cL_law 1168 = .ok (.iadd, 1) := by decide +kernel
theorem dL_law_1169 : decode cL_law 1169 = .ok (.iaload, 1) := by decide +kernel
theorem dL_law_1170 : decode cL_law 1170 = .ok (.invokevirtual 160, 3) := by decide +kernel
theorem dL_law_1173 : decode cL_law 1173 = .ok (.istore 6, 2) := by decide +kernel
theorem dL_law_1175 : decode cL_law 1175 = .ok (.aload_n 2, 1) := by decide +kernel
theorem dL_law_1176 : decode cL_law 1176 = .ok (.invokevirtual 107, 3) := by decide +kernel
theorem dL_law_1179 : decode cL_law 1179 = .ok (.iload 5, 2) := by decide +kernel
theorem dL_law_1181 : decode cL_law 1181 = .ok (.if_icmp .eq 5, 3) := by decide +kernel
theorem dL_law_1184 : decode cL_law 1184 = .ok (.iconst 0, 1) := by decide +kernel
theorem dL_law_1185 : decode cL_law 1185 = .ok (.ireturn, 1) := by decide +kernel
theorem dL_law_1186 : decode cL_law 1186 = .ok (.iload 5, 2) := by decide +kernel
theorem dL_law_1188 : decode cL_law 1188 = .ok (.ifCond .ne 15, 3) := by decide +kernel
theorem dL_law_1191 : decode cL_law 1191 = .ok (.aload_n 3, 1) := by decide +kernel
theorem dL_law_1192 : decode cL_law 1192 = .ok (.iconst 0, 1) := by decide +kernel
theorem dL_law_1193 : decode cL_law 1193 = .ok (.laload, 1) := by decide +kernel
theorem dL_law_1194 : decode cL_law 1194 = .ok (.iload 6, 2) := by decide +kernel
theorem dL_law_1196 : decode cL_law 1196 = .ok (.i2l, 1) := by decide +kernel
theorem dL_law_1197 : decode cL_law 1197 = .ok (.lcmp, 1) := by decide +kernel
theorem dL_law_1198 : decode cL_law 1198 = .ok (.ifCond .eq 5, 3) := by decide +kernel
theorem dL_law_1201 : decode cL_law 1201 = .ok (.iconst 0, 1) := by decide +kernel
theorem dL_law_1202 : decode cL_law 1202 = .ok (.ireturn, 1) := by decide +kernel
theorem dL_law_1203 : decode cL_law 1203 = .ok (.goto 671, 3) := by decide +kernel
theorem dL_law_1206 : decode cL_law 1206 = .ok (.aload_n 1, 1) := by decide +kernel
theorem dL_law_1207 : decode cL_law 1207 = .ok (.aload_n 0, 1) := by decide +kernel
theorem dL_law_1208 : decode cL_law 1208 = .ok (.iload 4, 2) := by decide +kernel
theorem dL_law_1210 : decode cL_law 1210 = .ok (.iconst 1, 1) := by decide +kernel
theorem dL_law_1211 : decode cL_law 1211 = .ok (.iadd, 1) := by decide +kernel
theorem dL_law_1212 : decode cL_law 1212 = .ok (.iaload, 1) := by decide +kernel
theorem dL_law_1213 : decode cL_law 1213 = .ok (.aload_n 3, 1) := by decide +kernel
theorem dL_law_1214 : decode cL_law 1214 = .ok (.invokestatic 161, 3) := by decide +kernel
theorem dL_law_1217 : decode cL_law 1217 = .ok (.istore 5, 2) := by decide +kernel
theorem dL_law_1219 : decode cL_law 1219 = .ok (.aload_n 2, 1) := by decide +kernel
theorem dL_law_1220 : decode cL_law 1220 = .ok (.aload_n 0, 1) := by decide +kernel
theorem dL_law_1221 : decode cL_law 1221 = .ok (.iload 4, 2) := by decide +kernel
theorem dL_law_1223 : decode cL_law 1223 = .ok (.iconst 1, 1) := by decide +kernel
theorem dL_law_1224 : decode cL_law 1224 = .ok (.iadd, 1) := by decide +kernel
theorem dL_law_1225 : decode cL_law 1225 = .ok (.iaload, 1) := by decide +kernel
theorem dL_law_1226 : decode cL_law 1226 = .ok (.invokevirtual 163, 3) := by decide +kernel
theorem dL_law_1229 : decode cL_law 1229 = .ok (.istore 6, 2) := by decide +kernel
theorem dL_law_1231 : decode cL_law 1231 = .ok (.aload_n 2, 1) := by decide +kernel
theorem dL_law_1232 : decode cL_law 1232 = .ok (.invokevirtual 107, 3) := by decide +kernel
theorem dL_law_1235 : decode cL_law 1235 = .ok (.iload 5, 2) := by decide +kernel
theorem dL_law_1237 : decode cL_law 1237 = .ok (.if_icmp .eq 5, 3) := by decide +kernel
theorem dL_law_1240 : decode cL_law 1240 = .ok (.iconst 0, 1) := by decide +kernel
theorem dL_law_1241 : decode cL_law 1241 = .ok (.ireturn, 1) := by decide +kernel
theorem dL_law_1242 : decode cL_law 1242 = .ok (.iload 5, 2) := by decide +kernel
theorem dL_law_1244 : decode cL_law 1244 = .ok (.ifCond .ne 15, 3) := by decide +kernel
theorem dL_law_1247 : decode cL_law 1247 = .ok (.aload_n 3, 1) := by decide +kernel
theorem dL_law_1248 : decode cL_law 1248 = .ok (.iconst 0, 1) := by decide +kernel
theorem dL_law_1249 : decode cL_law 1249 = .ok (.laload, 1) := by decide +kernel
theorem dL_law_1250 : decode cL_law 1250 = .ok (.iload 6, 2) := by decide +kernel
theorem dL_law_1252 : decode cL_law 1252 = .ok (.i2l, 1) := by decide +kernel
theorem dL_law_1253 : decode cL_law 1253 = .ok (.lcmp, 1) := by decide +kernel
theorem dL_law_1254 : decode cL_law 1254 = .ok (.ifCond .eq 5, 3) := by decide +kernel
theorem dL_law_1257 : decode cL_law 1257 = .ok (.iconst 0, 1) := by decide +kernel
theorem dL_law_1258 : decode cL_law 1258 = .ok (.ireturn, 1) := by decide +kernel
theorem dL_law_1259 : decode cL_law 1259 = .ok (.goto 615, 3) := by decide +kernel
theorem dL_law_1262 : decode cL_law 1262 = .ok (.aload_n 1, 1) := by decide +kernel
theorem dL_law_1263 : decode cL_law 1263 = .ok (.invokevirtual 164, 3) := by decide +kernel
theorem dL_law_1266 : decode cL_law 1266 = .ok (.aload_n 2, 1) := by decide +kernel
theorem dL_law_1267 : decode cL_law 1267 = .ok (.invokevirtual 167, 3) := by decide +kernel
theorem dL_law_1270 : decode cL_law 1270 = .ok (.if_icmp .eq 604, 3) := by decide +kernel
theorem dL_law_1273 : decode cL_law 1273 = .ok (.iconst 0, 1) := by decide +kernel
theorem dL_law_1274 : decode cL_law 1274 = .ok (.ireturn, 1) := by decide +kernel
theorem dL_law_1275 : decode cL_law 1275 = .ok (.aload_n 1, 1) := by decide +kernel
theorem dL_law_1276 : decode cL_law 1276 = .ok (.aload_n 0, 1) := by decide +kernel
theorem dL_law_1277 : decode cL_law 1277 = .ok (.iload 4, 2) := by decide +kernel
theorem dL_law_1279 : decode cL_law 1279 = .ok (.iconst 1, 1) := by decide +kernel
theorem dL_law_1280 : decode cL_law 1280 = .ok (.iadd, 1) := by decide +kernel
theorem dL_law_1281 : decode cL_law 1281 = .ok (.iaload, 1) := by decide +kernel
theorem dL_law_1282 : decode cL_law 1282 = .ok (.aload_n 0, 1) := by decide +kernel
theorem dL_law_1283 : decode cL_law 1283 = .ok (.iload 4, 2) := by decide +kernel
theorem dL_law_1285 : decode cL_law 1285 = .ok (.iconst 2, 1) := by decide +kernel
theorem dL_law_1286 : decode cL_law 1286 = .ok (.iadd, 1) := by decide +kernel
theorem dL_law_1287 : decode cL_law 1287 = .ok (.iaload, 1) := by decide +kernel
theorem dL_law_1288 : decode cL_law 1288 = .ok (.aload_n 3, 1) := by decide +kernel
theorem dL_law_1289 : decode cL_law 1289 = .ok (.invokestatic 168, 3) := by decide +kernel
theorem dL_law_1292 : decode cL_law 1292 = .ok (.istore 5, 2) := by decide +kernel
theorem dL_law_1294 : decode cL_law 1294 = .ok (.aload_n 2, 1) := by decide +kernel
theorem dL_law_1295 : decode cL_law 1295 = .ok (.aload_n 0, 1) := by decide +kernel
theorem dL_law_1296 : decode cL_law 1296 = .ok (.iload 4, 2) := by decide +kernel
theorem dL_law_1298 : decode cL_law 1298 = .ok (.iconst 1, 1) := by decide +kernel
theorem dL_law_1299 : decode cL_law 1299 = .ok (.iadd, 1) := by decide +kernel
theorem dL_law_1300 : decode cL_law 1300 = .ok (.iaload, 1) := by decide +kernel
theorem dL_law_1301 : decode cL_law 1301 = .ok (.aload_n 0, 1) := by decide +kernel
theorem dL_law_1302 : decode cL_law 1302 = .ok (.iload 4, 2) := by decide +kernel
theorem dL_law_1304 : decode cL_law 1304 = .ok (.iconst 2, 1) := by decide +kernel
theorem dL_law_1305 : decode cL_law 1305 = .ok (.iadd, 1) := by decide +kernel
theorem dL_law_1306 : decode cL_law 1306 = .ok (.iaload, 1) := by decide +kernel
theorem dL_law_1307 : decode cL_law 1307 = .ok (.invokevirtual 170, 3) := by decide +kernel
theorem dL_law_1310 : decode cL_law 1310 = .ok (.istore 6, 2) := by decide +kernel
theorem dL_law_1312 : decode cL_law 1312 = .ok (.aload_n 2, 1) := by decide +kernel
theorem dL_law_1313 : decode cL_law 1313 = .ok (.invokevirtual 107, 3) := by decide +kernel
theorem dL_law_1316 : decode cL_law 1316 = .ok (.iload 5, 2) := by decide +kernel
theorem dL_law_1318 : decode cL_law 1318 = .ok (.if_icmp .eq 5, 3) := by decide +kernel
theorem dL_law_1321 : decode cL_law 1321 = .ok (.iconst 0, 1) := by decide +kernel
theorem dL_law_1322 : decode cL_law 1322 = .ok (.ireturn, 1) := by decide +kernel
theorem dL_law_1323 : decode cL_law 1323 = .ok (.iload 5, 2) := by decide +kernel
theorem dL_law_1325 : decode cL_law 1325 = .ok (.ifCond .ne 15, 3) := by decide +kernel
theorem dL_law_1328 : decode cL_law 1328 = .ok (.aload_n 3, 1) := by decide +kernel
theorem dL_law_1329 : decode cL_law 1329 = .ok (.iconst 0, 1) := by decide +kernel
theorem dL_law_1330 : decode cL_law 1330 = .ok (.laload, 1) := by decide +kernel
theorem dL_law_1331 : decode cL_law 1331 = .ok (.iload 6, 2) := by decide +kernel
theorem dL_law_1333 : decode cL_law 1333 = .ok (.i2l, 1) := by decide +kernel
theorem dL_law_1334 : decode cL_law 1334 = .ok (.lcmp, 1) := by decide +kernel
theorem dL_law_1335 : decode cL_law 1335 = .ok (.ifCond .eq 5, 3) := by decide +kernel
theorem dL_law_1338 : decode cL_law 1338 = .ok (.iconst 0, 1) := by decide +kernel
theorem dL_law_1339 : decode cL_law 1339 = .ok (.ireturn, 1) := by decide +kernel
theorem dL_law_1340 : decode cL_law 1340 = .ok (.goto 534, 3) := by decide +kernel
theorem dL_law_1343 : decode cL_law 1343 = .ok (.aload_n 1, 1) := by decide +kernel
theorem dL_law_1344 : decode cL_law 1344 = .ok (.aload_n 0, 1) := by decide +kernel
theorem dL_law_1345 : decode cL_law 1345 = .ok (.iload 4, 2) := by decide +kernel
theorem dL_law_1347 : decode cL_law 1347 = .ok (.iconst 1, 1) := by decide +kernel
theorem dL_law_1348 : decode cL_law 1348 = .ok (.iadd, 1) := by decide +kernel
theorem dL_law_1349 : decode cL_law 1349 = .ok (.iaload, 1) := by decide +kernel
theorem dL_law_1350 : decode cL_law 1350 = .ok (.aload_n 3, 1) := by decide +kernel
theorem dL_law_1351 : decode cL_law 1351 = .ok (.invokestatic 171, 3) := by decide +kernel
theorem dL_law_1354 : decode cL_law 1354 = .ok (.istore 5, 2) := by decide +kernel
theorem dL_law_1356 : decode cL_law 1356 = .ok (.aload_n 2, 1) := by decide +kernel
theorem dL_law_1357 : decode cL_law 1357 = .ok (.aload_n 0, 1) := by decide +kernel
theorem dL_law_1358 : decode cL_law 1358 = .ok (.iload 4, 2) := by decide +kernel
theorem dL_law_1360 : decode cL_law 1360 = .ok (.iconst 1, 1) := by decide +kernel
theorem dL_law_1361 : decode cL_law 1361 = .ok (.iadd, 1) := by decide +kernel
theorem dL_law_1362 : decode cL_law 1362 = .ok (.iaload, 1) := by decide +kernel
theorem dL_law_1363 : decode cL_law 1363 = .ok (.invokevirtual 173, 3) := by decide +kernel
theorem dL_law_1366 : decode cL_law 1366 = .ok (.istore 6, 2) := by decide +kernel
theorem dL_law_1368 : decode cL_law 1368 = .ok (.aload_n 2, 1) := by decide +kernel
theorem dL_law_1369 : decode cL_law 1369 = .ok (.invokevirtual 107, 3) := by decide +kernel
theorem dL_law_1372 : decode cL_law 1372 = .ok (.iload 5, 2) := by decide +kernel
theorem dL_law_1374 : decode cL_law 1374 = .ok (.if_icmp .eq 5, 3) := by decide +kernel
theorem dL_law_1377 : decode cL_law 1377 = .ok (.iconst 0, 1) := by decide +kernel
theorem dL_law_1378 : decode cL_law 1378 = .ok (.ireturn, 1) := by decide +kernel
theorem dL_law_1379 : decode cL_law 1379 = .ok (.iload 5, 2) := by decide +kernel
theorem dL_law_1381 : decode cL_law 1381 = .ok (.ifCond .ne 15, 3) := by decide +kernel
theorem dL_law_1384 : decode cL_law 1384 = .ok (.aload_n 3, 1) := by decide +kernel
theorem dL_law_1385 : decode cL_law 1385 = .ok (.iconst 0, 1) := by decide +kernel
theorem dL_law_1386 : decode cL_law 1386 = .ok (.laload, 1) := by decide +kernel
theorem dL_law_1387 : decode cL_law 1387 = .ok (.iload 6, 2) := by decide +kernel
theorem dL_law_1389 : decode cL_law 1389 = .ok (.i2l, 1) := by decide +kernel
theorem dL_law_1390 : decode cL_law 1390 = .ok (.lcmp, 1) := by decide +kernel
theorem dL_law_1391 : decode cL_law 1391 = .ok (.ifCond .eq 5, 3) := by decide +kernel
theorem dL_law_1394 : decode cL_law 1394 = .ok (.iconst 0, 1) := by decide +kernel
theorem dL_law_1395 : decode cL_law 1395 = .ok (.ireturn, 1) := by decide +kernel
theorem dL_law_1396 : decode cL_law 1396 = .ok (.goto 478, 3) := by decide +kernel
theorem dL_law_1399 : decode cL_law 1399 = .ok (.aload_n 1, 1) := by decide +kernel
theorem dL_law_1400 : decode cL_law 1400 = .ok (.invokevirtual 174, 3) := by decide +kernel
theorem dL_law_1403 : decode cL_law 1403 = .ok (.aload_n 2, 1) := by decide +kernel
theorem dL_law_1404 : decode cL_law 1404 = .ok (.invokevirtual 177, 3) := by decide +kernel
theorem dL_law_1407 : decode cL_law 1407 = .ok (.if_icmp .eq 467, 3) := by decide +kernel
theorem dL_law_1410 : decode cL_law 1410 = .ok (.iconst 0, 1) := by decide +kernel
theorem dL_law_1411 : decode cL_law 1411 = .ok (.ireturn, 1) := by decide +kernel
theorem dL_law_1412 : decode cL_law 1412 = .ok (.aload_n 1, 1) := by decide +kernel
theorem dL_law_1413 : decode cL_law 1413 = .ok (.aload_n 0, 1) := by decide +kernel
theorem dL_law_1414 : decode cL_law 1414 = .ok (.iload 4, 2) := by decide +kernel
theorem dL_law_1416 : decode cL_law 1416 = .ok (.iconst 1, 1) := by decide +kernel
theorem dL_law_1417 : decode cL_law 1417 = .ok (.iadd, 1) := by decide +kernel
theorem dL_law_1418 : decode cL_law 1418 = .ok (.iaload, 1) := by decide +kernel
theorem dL_law_1419 : decode cL_law 1419 = .ok (.aload_n 3, 1) := by decide +kernel
theorem dL_law_1420 : decode cL_law 1420 = .ok (.invokestatic 178, 3) := by decide +kernel
theorem dL_law_1423 : decode cL_law 1423 = .ok (.istore 5, 2) := by decide +kernel
theorem dL_law_1425 : decode cL_law 1425 = .ok (.aload_n 2, 1) := by decide +kernel
theorem dL_law_1426 : decode cL_law 1426 = .ok (.aload_n 0, 1) := by decide +kernel
theorem dL_law_1427 : decode cL_law 1427 = .ok (.iload 4, 2) := by decide +kernel
theorem dL_law_1429 : decode cL_law 1429 = .ok (.iconst 1, 1) := by decide +kernel
theorem dL_law_1430 : decode cL_law 1430 = .ok (.iadd, 1) := by decide +kernel
theorem dL_law_1431 : decode cL_law 1431 = .ok (.iaload, 1) := by decide +kernel
theorem dL_law_1432 : decode cL_law 1432 = .ok (.invokevirtual 180, 3) := by decide +kernel
theorem dL_law_1435 : decode cL_law 1435 = .ok (.istore 6, 2) := by decide +kernel
theorem dL_law_1437 : decode cL_law 1437 = .ok (.aload_n 2, 1) := by decide +kernel
theorem dL_law_1438 : decode cL_law 1438 = .ok (.invokevirtual 107, 3) := by decide +kernel
theorem dL_law_1441 : decode cL_law 1441 = .ok (.iload 5, 2) := by decide +kernel
theorem dL_law_1443 : decode cL_law 1443 = .ok (.if_icmp .eq 5, 3) := by decide +kernel
theorem dL_law_1446 : decode cL_law 1446 = .ok (.iconst 0, 1) := by decide +kernel
theorem dL_law_1447 : decode cL_law 1447 = .ok (.ireturn, 1) := by decide +kernel
theorem dL_law_1448 : decode cL_law 1448 = .ok (.iload 5, 2) := by decide +kernel
theorem dL_law_1450 : decode cL_law 1450 = .ok (.ifCond .ne 15, 3) := by decide +kernel
theorem dL_law_1453 : decode cL_law 1453 = .ok (.aload_n 3, 1) := by decide +kernel
theorem dL_law_1454 : decode cL_law 1454 = .ok (.iconst 0, 1) := by decide +kernel
theorem dL_law_1455 : decode cL_law 1455 = .ok (.laload, 1) := by decide +kernel
theorem dL_law_1456 : decode cL_law 1456 = .ok (.iload 6, 2) := by decide +kernel
theorem dL_law_1458 : decode cL_law 1458 = .ok (.i2l, 1) := by decide +kernel
theorem dL_law_1459 : decode cL_law 1459 = .ok (.lcmp, 1) := by decide +kernel
theorem dL_law_1460 : decode cL_law 1460 = .ok (.ifCond .eq 5, 3) := by decide +kernel
theorem dL_law_1463 : decode cL_law 1463 = .ok (.iconst 0, 1) := by decide +kernel
theorem dL_law_1464 : decode cL_law 1464 = .ok (.ireturn, 1) := by decide +kernel
theorem dL_law_1465 : decode cL_law 1465 = .ok (.goto 409, 3) := by decide +kernel
theorem dL_law_1468 : decode cL_law 1468 = .ok (.aload_n 1, 1) := by decide +kernel
theorem dL_law_1469 : decode cL_law 1469 = .ok (.invokevirtual 181, 3) := by decide +kernel
theorem dL_law_1472 : decode cL_law 1472 = .ok (.dstore 5, 2) := by decide +kernel
theorem dL_law_1474 : decode cL_law 1474 = .ok (.aload_n 2, 1) := by decide +kernel
theorem dL_law_1475 : decode cL_law 1475 = .ok (.invokevirtual 185, 3) := by decide +kernel
theorem dL_law_1478 : decode cL_law 1478 = .ok (.dstore 7, 2) := by decide +kernel
theorem dL_law_1480 : decode cL_law 1480 = .ok (.dload 5, 2) := by decide +kernel
theorem dL_law_1482 : decode cL_law 1482 = .ok (.dload 7, 2) := by decide +kernel
theorem dL_law_1484 : decode cL_law 1484 = .ok (.dcmp .l, 1) := by decide +kernel
theorem dL_law_1485 : decode cL_law 1485 = .ok (.ifCond .eq 21, 3) := by decide +kernel
theorem dL_law_1488 : decode cL_law 1488 = .ok (.dload 5, 2) := by decide +kernel
theorem dL_law_1490 : decode cL_law 1490 = .ok (.dload 5, 2) := by decide +kernel
theorem dL_law_1492 : decode cL_law 1492 = .ok (.dcmp .l, 1) := by decide +kernel
theorem dL_law_1493 : decode cL_law 1493 = .ok (.ifCond .eq 11, 3) := by decide +kernel
theorem dL_law_1496 : decode cL_law 1496 = .ok (.dload 7, 2) := by decide +kernel
theorem dL_law_1498 : decode cL_law 1498 = .ok (.dload 7, 2) := by decide +kernel
theorem dL_law_1500 : decode cL_law 1500 = .ok (.dcmp .l, 1) := by decide +kernel
theorem dL_law_1501 : decode cL_law 1501 = .ok (.ifCond .ne 5, 3) := by decide +kernel
theorem dL_law_1504 : decode cL_law 1504 = .ok (.iconst 0, 1) := by decide +kernel
theorem dL_law_1505 : decode cL_law 1505 = .ok (.ireturn, 1) := by decide +kernel
theorem dL_law_1506 : decode cL_law 1506 = .ok (.goto 368, 3) := by decide +kernel
theorem dL_law_1509 : decode cL_law 1509 = .ok (.aload_n 1, 1) := by decide +kernel
theorem dL_law_1510 : decode cL_law 1510 = .ok (.aload_n 0, 1) := by decide +kernel
theorem dL_law_1511 : decode cL_law 1511 = .ok (.iload 4, 2) := by decide +kernel
theorem dL_law_1513 : decode cL_law 1513 = .ok (.iconst 1, 1) := by decide +kernel
theorem dL_law_1514 : decode cL_law 1514 = .ok (.iadd, 1) := by decide +kernel
theorem dL_law_1515 : decode cL_law 1515 = .ok (.iaload, 1) := by decide +kernel
theorem dL_law_1516 : decode cL_law 1516 = .ok (.aload_n 3, 1) := by decide +kernel
theorem dL_law_1517 : decode cL_law 1517 = .ok (.invokestatic 186, 3) := by decide +kernel
theorem dL_law_1520 : decode cL_law 1520 = .ok (.istore 5, 2) := by decide +kernel
theorem dL_law_1522 : decode cL_law 1522 = .ok (.aload_n 2, 1) := by decide +kernel
theorem dL_law_1523 : decode cL_law 1523 = .ok (.aload_n 0, 1) := by decide +kernel
theorem dL_law_1524 : decode cL_law 1524 = .ok (.iload 4, 2) := by decide +kernel
theorem dL_law_1526 : decode cL_law 1526 = .ok (.iconst 1, 1) := by decide +kernel
theorem dL_law_1527 : decode cL_law 1527 = .ok (.iadd, 1) := by decide +kernel
theorem dL_law_1528 : decode cL_law 1528 = .ok (.iaload, 1) := by decide +kernel
theorem dL_law_1529 : decode cL_law 1529 = .ok (.invokevirtual 188, 3) := by decide +kernel
theorem dL_law_1532 : decode cL_law 1532 = .ok (.istore 6, 2) := by decide +kernel
theorem dL_law_1534 : decode cL_law 1534 = .ok (.aload_n 2, 1) := by decide +kernel
theorem dL_law_1535 : decode cL_law 1535 = .ok (.invokevirtual 107, 3) := by decide +kernel
theorem dL_law_1538 : decode cL_law 1538 = .ok (.iload 5, 2) := by decide +kernel
theorem dL_law_1540 : decode cL_law 1540 = .ok (.if_icmp .eq 5, 3) := by decide +kernel
theorem dL_law_1543 : decode cL_law 1543 = .ok (.iconst 0, 1) := by decide +kernel
theorem dL_law_1544 : decode cL_law 1544 = .ok (.ireturn, 1) := by decide +kernel
theorem dL_law_1545 : decode cL_law 1545 = .ok (.iload 5, 2) := by decide +kernel
theorem dL_law_1547 : decode cL_law 1547 = .ok (.ifCond .ne 15, 3) := by decide +kernel
theorem dL_law_1550 : decode cL_law 1550 = .ok (.aload_n 3, 1) := by decide +kernel
theorem dL_law_1551 : decode cL_law 1551 = .ok (.iconst 0, 1) := by decide +kernel
theorem dL_law_1552 : decode cL_law 1552 = .ok (.laload, 1) := by decide +kernel
theorem dL_law_1553 : decode cL_law 1553 = .ok (.iload 6, 2) := by decide +kernel
theorem dL_law_1555 : decode cL_law 1555 = .ok (.i2l, 1) := by decide +kernel
theorem dL_law_1556 : decode cL_law 1556 = .ok (.lcmp, 1) := by decide +kernel
theorem dL_law_1557 : decode cL_law 1557 = .ok (.ifCond .eq 5, 3) := by decide +kernel
theorem dL_law_1560 : decode cL_law 1560 = .ok (.iconst 0, 1) := by decide +kernel
theorem dL_law_1561 : decode cL_law 1561 = .ok (.ireturn, 1) := by decide +kernel
theorem dL_law_1562 : decode cL_law 1562 = .ok (.goto 312, 3) := by decide +kernel
theorem dL_law_1565 : decode cL_law 1565 = .ok (.aload_n 1, 1) := by decide +kernel
theorem dL_law_1566 : decode cL_law 1566 = .ok (.aload_n 0, 1) := by decide +kernel
theorem dL_law_1567 : decode cL_law 1567 = .ok (.iload 4, 2) := by decide +kernel
theorem dL_law_1569 : decode cL_law 1569 = .ok (.iconst 1, 1) := by decide +kernel
theorem dL_law_1570 : decode cL_law 1570 = .ok (.iadd, 1) := by decide +kernel
theorem dL_law_1571 : decode cL_law 1571 = .ok (.iaload, 1) := by decide +kernel
theorem dL_law_1572 : decode cL_law 1572 = .ok (.aload_n 3, 1) := by decide +kernel
theorem dL_law_1573 : decode cL_law 1573 = .ok (.invokestatic 189, 3) := by decide +kernel
theorem dL_law_1576 : decode cL_law 1576 = .ok (.istore 5, 2) := by decide +kernel
theorem dL_law_1578 : decode cL_law 1578 = .ok (.aload_n 2, 1) := by decide +kernel
theorem dL_law_1579 : decode cL_law 1579 = .ok (.aload_n 0, 1) := by decide +kernel
theorem dL_law_1580 : decode cL_law 1580 = .ok (.iload 4, 2) := by decide +kernel
theorem dL_law_1582 : decode cL_law 1582 = .ok (.iconst 1, 1) := by decide +kernel
theorem dL_law_1583 : decode cL_law 1583 = .ok (.iadd, 1) := by decide +kernel
theorem dL_law_1584 : decode cL_law 1584 = .ok (.iaload, 1) := by decide +kernel
theorem dL_law_1585 : decode cL_law 1585 = .ok (.invokevirtual 191, 3) := by decide +kernel
theorem dL_law_1588 : decode cL_law 1588 = .ok (.istore 6, 2) := by decide +kernel
theorem dL_law_1590 : decode cL_law 1590 = .ok (.aload_n 2, 1) := by decide +kernel
theorem dL_law_1591 : decode cL_law 1591 = .ok (.invokevirtual 107, 3) := by decide +kernel
theorem dL_law_1594 : decode cL_law 1594 = .ok (.iload 5, 2) := by decide +kernel
theorem dL_law_1596 : decode cL_law 1596 = .ok (.if_icmp .eq 5, 3) := by decide +kernel
theorem dL_law_1599 : decode cL_law 1599 = .ok (.iconst 0, 1) := by decide +kernel
theorem dL_law_1600 : decode cL_law 1600 = .ok (.ireturn, 1) := by decide +kernel
theorem dL_law_1601 : decode cL_law 1601 = .ok (.iload 5, 2) := by decide +kernel
theorem dL_law_1603 : decode cL_law 1603 = .ok (.ifCond .ne 15, 3) := by decide +kernel
theorem dL_law_1606 : decode cL_law 1606 = .ok (.aload_n 3, 1) := by decide +kernel
theorem dL_law_1607 : decode cL_law 1607 = .ok (.iconst 0, 1) := by decide +kernel
theorem dL_law_1608 : decode cL_law 1608 = .ok (.laload, 1) := by decide +kernel
theorem dL_law_1609 : decode cL_law 1609 = .ok (.iload 6, 2) := by decide +kernel
theorem dL_law_1611 : decode cL_law 1611 = .ok (.i2l, 1) := by decide +kernel
theorem dL_law_1612 : decode cL_law 1612 = .ok (.lcmp, 1) := by decide +kernel
theorem dL_law_1613 : decode cL_law 1613 = .ok (.ifCond .eq 5, 3) := by decide +kernel
theorem dL_law_1616 : decode cL_law 1616 = .ok (.iconst 0, 1) := by decide +kernel
theorem dL_law_1617 : decode cL_law 1617 = .ok (.ireturn, 1) := by decide +kernel
theorem dL_law_1618 : decode cL_law 1618 = .ok (.goto 256, 3) := by decide +kernel
theorem dL_law_1621 : decode cL_law 1621 = .ok (.aload_n 1, 1) := by decide +kernel
theorem dL_law_1622 : decode cL_law 1622 = .ok (.aload_n 0, 1) := by decide +kernel
theorem dL_law_1623 : decode cL_law 1623 = .ok (.iload 4, 2) := by decide +kernel
theorem dL_law_1625 : decode cL_law 1625 = .ok (.iconst 1, 1) := by decide +kernel
theorem dL_law_1626 : decode cL_law 1626 = .ok (.iadd, 1) := by decide +kernel
theorem dL_law_1627 : decode cL_law 1627 = .ok (.iaload, 1) := by decide +kernel
theorem dL_law_1628 : decode cL_law 1628 = .ok (.aload_n 3, 1) := by decide +kernel
theorem dL_law_1629 : decode cL_law 1629 = .ok (.invokestatic 192, 3) := by decide +kernel
theorem dL_law_1632 : decode cL_law 1632 = .ok (.istore 5, 2) := by decide +kernel
theorem dL_law_1634 : decode cL_law 1634 = .ok (.aload_n 2, 1) := by decide +kernel
theorem dL_law_1635 : decode cL_law 1635 = .ok (.aload_n 0, 1) := by decide +kernel
theorem dL_law_1636 : decode cL_law 1636 = .ok (.iload 4, 2) := by decide +kernel
theorem dL_law_1638 : decode cL_law 1638 = .ok (.iconst 1, 1) := by decide +kernel
theorem dL_law_1639 : decode cL_law 1639 = .ok (.iadd, 1) := by decide +kernel
theorem dL_law_1640 : decode cL_law 1640 = .ok (.iaload, 1) := by decide +kernel
theorem dL_law_1641 : decode cL_law 1641 = .ok (.invokevirtual 194, 3) := by decide +kernel
theorem dL_law_1644 : decode cL_law 1644 = .ok (.istore 6, 2) := by decide +kernel
theorem dL_law_1646 : decode cL_law 1646 = .ok (.aload_n 2, 1) := by decide +kernel
theorem dL_law_1647 : decode cL_law 1647 = .ok (.invokevirtual 107, 3) := by decide +kernel
theorem dL_law_1650 : decode cL_law 1650 = .ok (.iload 5, 2) := by decide +kernel
theorem dL_law_1652 : decode cL_law 1652 = .ok (.if_icmp .eq 5, 3) := by decide +kernel
theorem dL_law_1655 : decode cL_law 1655 = .ok (.iconst 0, 1) := by decide +kernel
theorem dL_law_1656 : decode cL_law 1656 = .ok (.ireturn, 1) := by decide +kernel
theorem dL_law_1657 : decode cL_law 1657 = .ok (.iload 5, 2) := by decide +kernel
theorem dL_law_1659 : decode cL_law 1659 = .ok (.ifCond .ne 15, 3) := by decide +kernel
theorem dL_law_1662 : decode cL_law 1662 = .ok (.aload_n 3, 1) := by decide +kernel
theorem dL_law_1663 : decode cL_law 1663 = .ok (.iconst 0, 1) := by decide +kernel
theorem dL_law_1664 : decode cL_law 1664 = .ok (.laload, 1) := by decide +kernel
theorem dL_law_1665 : decode cL_law 1665 = .ok (.iload 6, 2) := by decide +kernel
theorem dL_law_1667 : decode cL_law 1667 = .ok (.i2l, 1) := by decide +kernel
theorem dL_law_1668 : decode cL_law 1668 = .ok (.lcmp, 1) := by decide +kernel
theorem dL_law_1669 : decode cL_law 1669 = .ok (.ifCond .eq 5, 3) := by decide +kernel
theorem dL_law_1672 : decode cL_law 1672 = .ok (.iconst 0, 1) := by decide +kernel
theorem dL_law_1673 : decode cL_law 1673 = .ok (.ireturn, 1) := by decide +kernel
theorem dL_law_1674 : decode cL_law 1674 = .ok (.goto 200, 3) := by decide +kernel
theorem dL_law_1677 : decode cL_law 1677 = .ok (.aload_n 1, 1) := by decide +kernel
theorem dL_law_1678 : decode cL_law 1678 = .ok (.aload_n 0, 1) := by decide +kernel
theorem dL_law_1679 : decode cL_law 1679 = .ok (.iload 4, 2) := by decide +kernel
theorem dL_law_1681 : decode cL_law 1681 = .ok (.iconst 1, 1) := by decide +kernel
theorem dL_law_1682 : decode cL_law 1682 = .ok (.iadd, 1) := by decide +kernel
theorem dL_law_1683 : decode cL_law 1683 = .ok (.iaload, 1) := by decide +kernel
theorem dL_law_1684 : decode cL_law 1684 = .ok (.aload_n 3, 1) := by decide +kernel
theorem dL_law_1685 : decode cL_law 1685 = .ok (.invokestatic 195, 3) := by decide +kernel
theorem dL_law_1688 : decode cL_law 1688 = .ok (.istore 5, 2) := by decide +kernel
theorem dL_law_1690 : decode cL_law 1690 = .ok (.aload_n 2, 1) := by decide +kernel
theorem dL_law_1691 : decode cL_law 1691 = .ok (.aload_n 0, 1) := by decide +kernel
theorem dL_law_1692 : decode cL_law 1692 = .ok (.iload 4, 2) := by decide +kernel
theorem dL_law_1694 : decode cL_law 1694 = .ok (.iconst 1, 1) := by decide +kernel
theorem dL_law_1695 : decode cL_law 1695 = .ok (.iadd, 1) := by decide +kernel
theorem dL_law_1696 : decode cL_law 1696 = .ok (.iaload, 1) := by decide +kernel
theorem dL_law_1697 : decode cL_law 1697 = .ok (.invokevirtual 197, 3) := by decide +kernel
theorem dL_law_1700 : decode cL_law 1700 = .ok (.istore 6, 2) := by decide +kernel
theorem dL_law_1702 : decode cL_law 1702 = .ok (.aload_n 2, 1) := by decide +kernel
theorem dL_law_1703 : decode cL_law 1703 = .ok (.invokevirtual 107, 3) := by decide +kernel
theorem dL_law_1706 : decode cL_law 1706 = .ok (.iload 5, 2) := by decide +kernel
theorem dL_law_1708 : decode cL_law 1708 = .ok (.if_icmp .eq 5, 3) := by decide +kernel
theorem dL_law_1711 : decode cL_law 1711 = .ok (.iconst 0, 1) := by decide +kernel
theorem dL_law_1712 : decode cL_law 1712 = .ok (.ireturn, 1) := by decide +kernel
theorem dL_law_1713 : decode cL_law 1713 = .ok (.iload 5, 2) := by decide +kernel
theorem dL_law_1715 : decode cL_law 1715 = .ok (.ifCond .ne 15, 3) := by decide +kernel
theorem dL_law_1718 : decode cL_law 1718 = .ok (.aload_n 3, 1) := by decide +kernel
theorem dL_law_1719 : decode cL_law 1719 = .ok (.iconst 0, 1) := by decide +kernel
theorem dL_law_1720 : decode cL_law 1720 = .ok (.laload, 1) := by decide +kernel
theorem dL_law_1721 : decode cL_law 1721 = .ok (.iload 6, 2) := by decide +kernel
theorem dL_law_1723 : decode cL_law 1723 = .ok (.i2l, 1) := by decide +kernel
theorem dL_law_1724 : decode cL_law 1724 = .ok (.lcmp, 1) := by decide +kernel
theorem dL_law_1725 : decode cL_law 1725 = .ok (.ifCond .eq 5, 3) := by decide +kernel
theorem dL_law_1728 : decode cL_law 1728 = .ok (.iconst 0, 1) := by decide +kernel
theorem dL_law_1729 : decode cL_law 1729 = .ok (.ireturn, 1) := by decide +kernel
theorem dL_law_1730 : decode cL_law 1730 = .ok (.goto 144, 3) := by decide +kernel
theorem dL_law_1733 : decode cL_law 1733 = .ok (.aload_n 1, 1) := by decide +kernel
theorem dL_law_1734 : decode cL_law 1734 = .ok (.invokevirtual 198, 3) := by decide +kernel
theorem dL_law_1737 : decode cL_law 1737 = .ok (.aload_n 2, 1) := by decide +kernel
theorem dL_law_1738 : decode cL_law 1738 = .ok (.invokevirtual 201, 3) := by decide +kernel
theorem dL_law_1741 : decode cL_law 1741 = .ok (.if_icmp .eq 133, 3) := by decide +kernel
theorem dL_law_1744 : decode cL_law 1744 = .ok (.iconst 0, 1) := by decide +kernel
theorem dL_law_1745 : decode cL_law 1745 = .ok (.ireturn, 1) := by decide +kernel
theorem dL_law_1746 : decode cL_law 1746 = .ok (.aload_n 1, 1) := by decide +kernel
theorem dL_law_1747 : decode cL_law 1747 = .ok (.invokevirtual 202, 3) := by decide +kernel
theorem dL_law_1750 : decode cL_law 1750 = .ok (.aload_n 2, 1) := by decide +kernel
theorem dL_law_1751 : decode cL_law 1751 = .ok (.invokevirtual 205, 3) := by decide +kernel
theorem dL_law_1754 : decode cL_law 1754 = .ok (.if_icmp .eq 120, 3) := by decide +kernel
theorem dL_law_1757 : decode cL_law 1757 = .ok (.iconst 0, 1) := by decide +kernel
theorem dL_law_1758 : decode cL_law 1758 = .ok (.ireturn, 1) := by decide +kernel
theorem dL_law_1759 : decode cL_law 1759 = .ok (.aload_n 1, 1) := by decide +kernel
theorem dL_law_1760 : decode cL_law 1760 = .ok (.aload_n 3, 1) := by decide +kernel
theorem dL_law_1761 : decode cL_law 1761 = .ok (.invokestatic 206, 3) := by decide +kernel
theorem dL_law_1764 : decode cL_law 1764 = .ok (.istore 5, 2) := by decide +kernel
theorem dL_law_1766 : decode cL_law 1766 = .ok (.aload_n 2, 1) := by decide +kernel
theorem dL_law_1767 : decode cL_law 1767 = .ok (.invokevirtual 208, 3) := by decide +kernel
theorem dL_law_1770 : decode cL_law 1770 = .ok (.istore 6, 2) := by decide +kernel
theorem dL_law_1772 : decode cL_law 1772 = .ok (.aload_n 2, 1) := by decide +kernel
theorem dL_law_1773 : decode cL_law 1773 = .ok (.invokevirtual 107, 3) := by decide +kernel
theorem dL_law_1776 : decode cL_law 1776 = .ok (.iload 5, 2) := by decide +kernel
theorem dL_law_1778 : decode cL_law 1778 = .ok (.if_icmp .eq 5, 3) := by decide +kernel
theorem dL_law_1781 : decode cL_law 1781 = .ok (.iconst 0, 1) := by decide +kernel
theorem dL_law_1782 : decode cL_law 1782 = .ok (.ireturn, 1) := by decide +kernel
theorem dL_law_1783 : decode cL_law 1783 = .ok (.iload 5, 2) := by decide +kernel
theorem dL_law_1785 : decode cL_law 1785 = .ok (.ifCond .ne 15, 3) := by decide +kernel
theorem dL_law_1788 : decode cL_law 1788 = .ok (.aload_n 3, 1) := by decide +kernel
theorem dL_law_1789 : decode cL_law 1789 = .ok (.iconst 0, 1) := by decide +kernel
theorem dL_law_1790 : decode cL_law 1790 = .ok (.laload, 1) := by decide +kernel
theorem dL_law_1791 : decode cL_law 1791 = .ok (.iload 6, 2) := by decide +kernel
theorem dL_law_1793 : decode cL_law 1793 = .ok (.i2l, 1) := by decide +kernel
theorem dL_law_1794 : decode cL_law 1794 = .ok (.lcmp, 1) := by decide +kernel
theorem dL_law_1795 : decode cL_law 1795 = .ok (.ifCond .eq 5, 3) := by decide +kernel
theorem dL_law_1798 : decode cL_law 1798 = .ok (.iconst 0, 1) := by decide +kernel
theorem dL_law_1799 : decode cL_law 1799 = .ok (.ireturn, 1) := by decide +kernel
theorem dL_law_1800 : decode cL_law 1800 = .ok (.goto 74, 3) := by decide +kernel
theorem dL_law_1803 : decode cL_law 1803 = .ok (.aload_n 1, 1) := by decide +kernel
theorem dL_law_1804 : decode cL_law 1804 = .ok (.aload_n 3, 1) := by decide +kernel
theorem dL_law_1805 : decode cL_law 1805 = .ok (.invokestatic 209, 3) := by decide +kernel
theorem dL_law_1808 : decode cL_law 1808 = .ok (.istore 5, 2) := by decide +kernel
theorem dL_law_1810 : decode cL_law 1810 = .ok (.aload_n 2, 1) := by decide +kernel
theorem dL_law_1811 : decode cL_law 1811 = .ok (.invokevirtual 211, 3) := by decide +kernel
theorem dL_law_1814 : decode cL_law 1814 = .ok (.istore 6, 2) := by decide +kernel
theorem dL_law_1816 : decode cL_law 1816 = .ok (.aload_n 2, 1) := by decide +kernel
theorem dL_law_1817 : decode cL_law 1817 = .ok (.invokevirtual 107, 3) := by decide +kernel
theorem dL_law_1820 : decode cL_law 1820 = .ok (.iload 5, 2) := by decide +kernel
theorem dL_law_1822 : decode cL_law 1822 = .ok (.if_icmp .eq 5, 3) := by decide +kernel
theorem dL_law_1825 : decode cL_law 1825 = .ok (.iconst 0, 1) := by decide +kernel
theorem dL_law_1826 : decode cL_law 1826 = .ok (.ireturn, 1) := by decide +kernel
theorem dL_law_1827 : decode cL_law 1827 = .ok (.iload 5, 2) := by decide +kernel
theorem dL_law_1829 : decode cL_law 1829 = .ok (.ifCond .ne 15, 3) := by decide +kernel
theorem dL_law_1832 : decode cL_law 1832 = .ok (.aload_n 3, 1) := by decide +kernel
theorem dL_law_1833 : decode cL_law 1833 = .ok (.iconst 0, 1) := by decide +kernel
theorem dL_law_1834 : decode cL_law 1834 = .ok (.laload, 1) := by decide +kernel
theorem dL_law_1835 : decode cL_law 1835 = .ok (.iload 6, 2) := by decide +kernel
theorem dL_law_1837 : decode cL_law 1837 = .ok (.i2l, 1) := by decide +kernel
theorem dL_law_1838 : decode cL_law 1838 = .ok (.lcmp, 1) := by decide +kernel
theorem dL_law_1839 : decode cL_law 1839 = .ok (.ifCond .eq 5, 3) := by decide +kernel
theorem dL_law_1842 : decode cL_law 1842 = .ok (.iconst 0, 1) := by decide +kernel
theorem dL_law_1843 : decode cL_law 1843 = .ok (.ireturn, 1) := by decide +kernel
theorem dL_law_1844 : decode cL_law 1844 = .ok (.goto 30, 3) := by decide +kernel
theorem dL_law_1847 : decode cL_law 1847 = .ok (.aload_n 1, 1) := by decide +kernel
theorem dL_law_1848 : decode cL_law 1848 = .ok (.invokevirtual 212, 3) := by decide +kernel
theorem dL_law_1851 : decode cL_law 1851 = .ok (.aload_n 2, 1) := by decide +kernel
theorem dL_law_1852 : decode cL_law 1852 = .ok (.invokevirtual 215, 3) := by decide +kernel
theorem dL_law_1855 : decode cL_law 1855 = .ok (.if_icmp .eq 19, 3) := by decide +kernel
theorem dL_law_1858 : decode cL_law 1858 = .ok (.iconst 0, 1) := by decide +kernel
theorem dL_law_1859 : decode cL_law 1859 = .ok (.ireturn, 1) := by decide +kernel
theorem dL_law_1860 : decode cL_law 1860 = .ok (.aload_n 1, 1) := by decide +kernel
theorem dL_law_1861 : decode cL_law 1861 = .ok (.invokevirtual 216, 3) := by decide +kernel
theorem dL_law_1864 : decode cL_law 1864 = .ok (.aload_n 2, 1) := by decide +kernel
theorem dL_law_1865 : decode cL_law 1865 = .ok (.invokevirtual 220, 3) := by decide +kernel
theorem dL_law_1868 : decode cL_law 1868 = .ok (.lcmp, 1) := by decide +kernel
theorem dL_law_1869 : decode cL_law 1869 = .ok (.ifCond .eq 5, 3) := by decide +kernel
theorem dL_law_1872 : decode cL_law 1872 = .ok (.iconst 0, 1) := by decide +kernel
theorem dL_law_1873 : decode cL_law 1873 = .ok (.ireturn, 1) := by decide +kernel
theorem dL_law_1874 : decode cL_law 1874 = .ok (.iinc 4 5, 3) := by decide +kernel
theorem dL_law_1877 : decode cL_law 1877 = .ok (.goto (-1854), 3) := by decide +kernel
theorem dL_law_1880 : decode cL_law 1880 = .ok (.iconst 1, 1) := by decide +kernel
theorem dL_law_1881 : decode cL_law 1881 = .ok (.ireturn, 1) := by decide +kernel
end
