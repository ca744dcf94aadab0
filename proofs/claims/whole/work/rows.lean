section
-- ===== PART A: goes FIRST, ahead of the names: the tables' words, and 'selects' of the private methods out of them =====
/-- a private method of a class that the tables say can be made, by its rows of tables_1 -/
def lw_okq (q : MethodName × Nat) : Prop := (q.1.cls ≠ "java/lang/invoke/MethodHandle" ∧ q.1.cls ≠ "java/lang/invoke/VarHandle") ∧ Cond.instantiable q.1.cls q.2 ∈ tables_1 ∧ Cond.privateMethod q.1 ∈ tables_1 ∧ Cond.instanceMethod q.1 ∈ tables_1
theorem lw_p0 : lw_okq (⟨"BottlingBook$Table", "put", "(III)V"⟩, 3) := ⟨⟨by decide +kernel, by decide +kernel⟩, List.mem_of_getElem? (i := 41) (by decide +kernel), List.mem_of_getElem? (i := 138) (by decide +kernel), List.mem_of_getElem? (i := 139) (by decide +kernel)⟩
theorem lw_p1 : lw_okq (⟨"BottlingBook$Table", "placeOf", "(II)I"⟩, 3) := ⟨⟨by decide +kernel, by decide +kernel⟩, List.mem_of_getElem? (i := 41) (by decide +kernel), List.mem_of_getElem? (i := 142) (by decide +kernel), List.mem_of_getElem? (i := 143) (by decide +kernel)⟩
theorem lw_p2 : lw_okq (⟨"BottlingBook$State", "copyFrom", "(LBottlingBook$State;)V"⟩, 4) := ⟨⟨by decide +kernel, by decide +kernel⟩, List.mem_of_getElem? (i := 29) (by decide +kernel), List.mem_of_getElem? (i := 251) (by decide +kernel), List.mem_of_getElem? (i := 252) (by decide +kernel)⟩
theorem lw_p3 : lw_okq (⟨"BottlingBook$Lots", "copyFrom", "(LBottlingBook$Lots;)V"⟩, 8) := ⟨⟨by decide +kernel, by decide +kernel⟩, List.mem_of_getElem? (i := 35) (by decide +kernel), List.mem_of_getElem? (i := 255) (by decide +kernel), List.mem_of_getElem? (i := 256) (by decide +kernel)⟩
theorem lw_p4 : lw_okq (⟨"BottlingBook$Table", "copyFrom", "(LBottlingBook$Table;)V"⟩, 3) := ⟨⟨by decide +kernel, by decide +kernel⟩, List.mem_of_getElem? (i := 41) (by decide +kernel), List.mem_of_getElem? (i := 259) (by decide +kernel), List.mem_of_getElem? (i := 260) (by decide +kernel)⟩
theorem lw_p5 : lw_okq (⟨"BottlingBook$Bottlings", "copyFrom", "(LBottlingBook$Bottlings;)V"⟩, 2) := ⟨⟨by decide +kernel, by decide +kernel⟩, List.mem_of_getElem? (i := 93) (by decide +kernel), List.mem_of_getElem? (i := 269) (by decide +kernel), List.mem_of_getElem? (i := 270) (by decide +kernel)⟩
theorem lw_p6 : lw_okq (⟨"BottlingBook$Customers", "copyFrom", "(LBottlingBook$Customers;)V"⟩, 4) := ⟨⟨by decide +kernel, by decide +kernel⟩, List.mem_of_getElem? (i := 112) (by decide +kernel), List.mem_of_getElem? (i := 274) (by decide +kernel), List.mem_of_getElem? (i := 275) (by decide +kernel)⟩
theorem lw_p7 : lw_okq (⟨"java/lang/Throwable", "fillInStackTrace", "(I)Ljava/lang/Throwable;"⟩, 6) := ⟨⟨by decide +kernel, by decide +kernel⟩, List.mem_of_getElem? (i := 334) (by decide +kernel), List.mem_of_getElem? (i := 332) (by decide +kernel), List.mem_of_getElem? (i := 333) (by decide +kernel)⟩
theorem lw_p8 : lw_okq (⟨"BottlingBook$History", "remember", "(LBottlingBook$State;)V"⟩, 3) := ⟨⟨by decide +kernel, by decide +kernel⟩, List.mem_of_getElem? (i := 163) (by decide +kernel), List.mem_of_getElem? (i := 380) (by decide +kernel), List.mem_of_getElem? (i := 381) (by decide +kernel)⟩
theorem lw_p9 : lw_okq (⟨"BottlingBook$History", "stateAt", "(I)LBottlingBook$State;"⟩, 3) := ⟨⟨by decide +kernel, by decide +kernel⟩, List.mem_of_getElem? (i := 163) (by decide +kernel), List.mem_of_getElem? (i := 384) (by decide +kernel), List.mem_of_getElem? (i := 385) (by decide +kernel)⟩
theorem lw_p10 : lw_okq (⟨"BottlingBook$Lots", "bringIn", "(IIII)I"⟩, 8) := ⟨⟨by decide +kernel, by decide +kernel⟩, List.mem_of_getElem? (i := 35) (by decide +kernel), List.mem_of_getElem? (i := 391) (by decide +kernel), List.mem_of_getElem? (i := 392) (by decide +kernel)⟩
theorem lw_p11 : lw_okq (⟨"BottlingBook$Lots", "enter", "(IIII)I"⟩, 8) := ⟨⟨by decide +kernel, by decide +kernel⟩, List.mem_of_getElem? (i := 35) (by decide +kernel), List.mem_of_getElem? (i := 396) (by decide +kernel), List.mem_of_getElem? (i := 397) (by decide +kernel)⟩
theorem lw_p12 : lw_okq (⟨"BottlingBook$Input", "readBlend", "()Z"⟩, 6) := ⟨⟨by decide +kernel, by decide +kernel⟩, List.mem_of_getElem? (i := 183) (by decide +kernel), List.mem_of_getElem? (i := 407) (by decide +kernel), List.mem_of_getElem? (i := 408) (by decide +kernel)⟩
theorem lw_p13 : lw_okq (⟨"BottlingBook$Input", "readPart", "(I)V"⟩, 6) := ⟨⟨by decide +kernel, by decide +kernel⟩, List.mem_of_getElem? (i := 183) (by decide +kernel), List.mem_of_getElem? (i := 411) (by decide +kernel), List.mem_of_getElem? (i := 412) (by decide +kernel)⟩
theorem lw_p14 : lw_okq (⟨"BottlingBook$Input", "readNumber", "()I"⟩, 6) := ⟨⟨by decide +kernel, by decide +kernel⟩, List.mem_of_getElem? (i := 183) (by decide +kernel), List.mem_of_getElem? (i := 415) (by decide +kernel), List.mem_of_getElem? (i := 416) (by decide +kernel)⟩
theorem lw_p15 : lw_okq (⟨"BottlingBook$Input", "hasDigit", "()Z"⟩, 6) := ⟨⟨by decide +kernel, by decide +kernel⟩, List.mem_of_getElem? (i := 183) (by decide +kernel), List.mem_of_getElem? (i := 419) (by decide +kernel), List.mem_of_getElem? (i := 420) (by decide +kernel)⟩
def lw_privs_1 : List (MethodName × Nat) := [(⟨"BottlingBook$Table", "put", "(III)V"⟩, 3), (⟨"BottlingBook$Table", "placeOf", "(II)I"⟩, 3), (⟨"BottlingBook$State", "copyFrom", "(LBottlingBook$State;)V"⟩, 4), (⟨"BottlingBook$Lots", "copyFrom", "(LBottlingBook$Lots;)V"⟩, 8), (⟨"BottlingBook$Table", "copyFrom", "(LBottlingBook$Table;)V"⟩, 3), (⟨"BottlingBook$Bottlings", "copyFrom", "(LBottlingBook$Bottlings;)V"⟩, 2), (⟨"BottlingBook$Customers", "copyFrom", "(LBottlingBook$Customers;)V"⟩, 4), (⟨"java/lang/Throwable", "fillInStackTrace", "(I)Ljava/lang/Throwable;"⟩, 6), (⟨"BottlingBook$History", "remember", "(LBottlingBook$State;)V"⟩, 3), (⟨"BottlingBook$History", "stateAt", "(I)LBottlingBook$State;"⟩, 3), (⟨"BottlingBook$Lots", "bringIn", "(IIII)I"⟩, 8), (⟨"BottlingBook$Lots", "enter", "(IIII)I"⟩, 8), (⟨"BottlingBook$Input", "readBlend", "()Z"⟩, 6), (⟨"BottlingBook$Input", "readPart", "(I)V"⟩, 6), (⟨"BottlingBook$Input", "readNumber", "()I"⟩, 6), (⟨"BottlingBook$Input", "hasDigit", "()Z"⟩, 6)]
theorem lw_r1 : ∀ q ∈ lw_privs_1, lw_okq q := List.forall_mem_cons.mpr ⟨lw_p0, List.forall_mem_cons.mpr ⟨lw_p1, List.forall_mem_cons.mpr ⟨lw_p2, List.forall_mem_cons.mpr ⟨lw_p3, List.forall_mem_cons.mpr ⟨lw_p4, List.forall_mem_cons.mpr ⟨lw_p5, List.forall_mem_cons.mpr ⟨lw_p6, List.forall_mem_cons.mpr ⟨lw_p7, List.forall_mem_cons.mpr ⟨lw_p8, List.forall_mem_cons.mpr ⟨lw_p9, List.forall_mem_cons.mpr ⟨lw_p10, List.forall_mem_cons.mpr ⟨lw_p11, List.forall_mem_cons.mpr ⟨lw_p12, List.forall_mem_cons.mpr ⟨lw_p13, List.forall_mem_cons.mpr ⟨lw_p14, List.forall_mem_cons.mpr ⟨lw_p15, fun _ h => absurd h List.not_mem_nil⟩⟩⟩⟩⟩⟩⟩⟩⟩⟩⟩⟩⟩⟩⟩⟩
theorem lw_p16 : lw_okq (⟨"BottlingBook$Input", "nextSign", "()I"⟩, 6) := ⟨⟨by decide +kernel, by decide +kernel⟩, List.mem_of_getElem? (i := 183) (by decide +kernel), List.mem_of_getElem? (i := 423) (by decide +kernel), List.mem_of_getElem? (i := 424) (by decide +kernel)⟩
theorem lw_p17 : lw_okq (⟨"BottlingBook$Input", "readSign", "(C)V"⟩, 6) := ⟨⟨by decide +kernel, by decide +kernel⟩, List.mem_of_getElem? (i := 183) (by decide +kernel), List.mem_of_getElem? (i := 429) (by decide +kernel), List.mem_of_getElem? (i := 430) (by decide +kernel)⟩
theorem lw_p18 : lw_okq (⟨"BottlingBook$Input", "hasEmptyPart", "()Z"⟩, 6) := ⟨⟨by decide +kernel, by decide +kernel⟩, List.mem_of_getElem? (i := 183) (by decide +kernel), List.mem_of_getElem? (i := 434) (by decide +kernel), List.mem_of_getElem? (i := 435) (by decide +kernel)⟩
theorem lw_p19 : lw_okq (⟨"BottlingBook$Input", "quartersOf", "(I)I"⟩, 6) := ⟨⟨by decide +kernel, by decide +kernel⟩, List.mem_of_getElem? (i := 183) (by decide +kernel), List.mem_of_getElem? (i := 438) (by decide +kernel), List.mem_of_getElem? (i := 439) (by decide +kernel)⟩
theorem lw_p20 : lw_okq (⟨"BottlingBook$Table", "at", "(II)I"⟩, 3) := ⟨⟨by decide +kernel, by decide +kernel⟩, List.mem_of_getElem? (i := 41) (by decide +kernel), List.mem_of_getElem? (i := 442) (by decide +kernel), List.mem_of_getElem? (i := 443) (by decide +kernel)⟩
theorem lw_p21 : lw_okq (⟨"BottlingBook$Lots", "refusalOf", "(LBottlingBook$Input;)I"⟩, 8) := ⟨⟨by decide +kernel, by decide +kernel⟩, List.mem_of_getElem? (i := 35) (by decide +kernel), List.mem_of_getElem? (i := 447) (by decide +kernel), List.mem_of_getElem? (i := 448) (by decide +kernel)⟩
theorem lw_p22 : lw_okq (⟨"BottlingBook$Lots", "hasWrongParts", "(LBottlingBook$Input;)Z"⟩, 8) := ⟨⟨by decide +kernel, by decide +kernel⟩, List.mem_of_getElem? (i := 35) (by decide +kernel), List.mem_of_getElem? (i := 451) (by decide +kernel), List.mem_of_getElem? (i := 452) (by decide +kernel)⟩
theorem lw_p23 : lw_okq (⟨"BottlingBook$Input", "lotOf", "(I)I"⟩, 6) := ⟨⟨by decide +kernel, by decide +kernel⟩, List.mem_of_getElem? (i := 183) (by decide +kernel), List.mem_of_getElem? (i := 455) (by decide +kernel), List.mem_of_getElem? (i := 456) (by decide +kernel)⟩
theorem lw_p24 : lw_okq (⟨"BottlingBook$Lots", "hasTooGreatPart", "(LBottlingBook$Input;)Z"⟩, 8) := ⟨⟨by decide +kernel, by decide +kernel⟩, List.mem_of_getElem? (i := 35) (by decide +kernel), List.mem_of_getElem? (i := 459) (by decide +kernel), List.mem_of_getElem? (i := 460) (by decide +kernel)⟩
theorem lw_p25 : lw_okq (⟨"BottlingBook$Lots", "leftIn", "(I)I"⟩, 8) := ⟨⟨by decide +kernel, by decide +kernel⟩, List.mem_of_getElem? (i := 35) (by decide +kernel), List.mem_of_getElem? (i := 464) (by decide +kernel), List.mem_of_getElem? (i := 465) (by decide +kernel)⟩
theorem lw_p26 : lw_okq (⟨"BottlingBook$Lots", "generationOf", "(LBottlingBook$Input;)I"⟩, 8) := ⟨⟨by decide +kernel, by decide +kernel⟩, List.mem_of_getElem? (i := 35) (by decide +kernel), List.mem_of_getElem? (i := 469) (by decide +kernel), List.mem_of_getElem? (i := 470) (by decide +kernel)⟩
theorem lw_p27 : lw_okq (⟨"BottlingBook", "requireNoRefusal", "(I)V"⟩, 10) := ⟨⟨by decide +kernel, by decide +kernel⟩, List.mem_of_getElem? (i := 21) (by decide +kernel), List.mem_of_getElem? (i := 474) (by decide +kernel), List.mem_of_getElem? (i := 475) (by decide +kernel)⟩
theorem lw_p28 : lw_okq (⟨"BottlingBook$Lots", "mix", "(LBottlingBook$Input;LBottlingBook$Table;)I"⟩, 8) := ⟨⟨by decide +kernel, by decide +kernel⟩, List.mem_of_getElem? (i := 35) (by decide +kernel), List.mem_of_getElem? (i := 479) (by decide +kernel), List.mem_of_getElem? (i := 480) (by decide +kernel)⟩
theorem lw_p29 : lw_okq (⟨"BottlingBook$Lots", "take", "(II)V"⟩, 8) := ⟨⟨by decide +kernel, by decide +kernel⟩, List.mem_of_getElem? (i := 35) (by decide +kernel), List.mem_of_getElem? (i := 483) (by decide +kernel), List.mem_of_getElem? (i := 484) (by decide +kernel)⟩
theorem lw_p30 : lw_okq (⟨"BottlingBook$Table", "add", "(III)V"⟩, 3) := ⟨⟨by decide +kernel, by decide +kernel⟩, List.mem_of_getElem? (i := 41) (by decide +kernel), List.mem_of_getElem? (i := 487) (by decide +kernel), List.mem_of_getElem? (i := 488) (by decide +kernel)⟩
theorem lw_p31 : lw_okq (⟨"BottlingBook$Lots", "mixShares", "(IILBottlingBook$Table;)V"⟩, 8) := ⟨⟨by decide +kernel, by decide +kernel⟩, List.mem_of_getElem? (i := 35) (by decide +kernel), List.mem_of_getElem? (i := 493) (by decide +kernel), List.mem_of_getElem? (i := 494) (by decide +kernel)⟩
def lw_privs_2 : List (MethodName × Nat) := [(⟨"BottlingBook$Input", "nextSign", "()I"⟩, 6), (⟨"BottlingBook$Input", "readSign", "(C)V"⟩, 6), (⟨"BottlingBook$Input", "hasEmptyPart", "()Z"⟩, 6), (⟨"BottlingBook$Input", "quartersOf", "(I)I"⟩, 6), (⟨"BottlingBook$Table", "at", "(II)I"⟩, 3), (⟨"BottlingBook$Lots", "refusalOf", "(LBottlingBook$Input;)I"⟩, 8), (⟨"BottlingBook$Lots", "hasWrongParts", "(LBottlingBook$Input;)Z"⟩, 8), (⟨"BottlingBook$Input", "lotOf", "(I)I"⟩, 6), (⟨"BottlingBook$Lots", "hasTooGreatPart", "(LBottlingBook$Input;)Z"⟩, 8), (⟨"BottlingBook$Lots", "leftIn", "(I)I"⟩, 8), (⟨"BottlingBook$Lots", "generationOf", "(LBottlingBook$Input;)I"⟩, 8), (⟨"BottlingBook", "requireNoRefusal", "(I)V"⟩, 10), (⟨"BottlingBook$Lots", "mix", "(LBottlingBook$Input;LBottlingBook$Table;)I"⟩, 8), (⟨"BottlingBook$Lots", "take", "(II)V"⟩, 8), (⟨"BottlingBook$Table", "add", "(III)V"⟩, 3), (⟨"BottlingBook$Lots", "mixShares", "(IILBottlingBook$Table;)V"⟩, 8)]
theorem lw_r2 : ∀ q ∈ lw_privs_2, lw_okq q := List.forall_mem_cons.mpr ⟨lw_p16, List.forall_mem_cons.mpr ⟨lw_p17, List.forall_mem_cons.mpr ⟨lw_p18, List.forall_mem_cons.mpr ⟨lw_p19, List.forall_mem_cons.mpr ⟨lw_p20, List.forall_mem_cons.mpr ⟨lw_p21, List.forall_mem_cons.mpr ⟨lw_p22, List.forall_mem_cons.mpr ⟨lw_p23, List.forall_mem_cons.mpr ⟨lw_p24, List.forall_mem_cons.mpr ⟨lw_p25, List.forall_mem_cons.mpr ⟨lw_p26, List.forall_mem_cons.mpr ⟨lw_p27, List.forall_mem_cons.mpr ⟨lw_p28, List.forall_mem_cons.mpr ⟨lw_p29, List.forall_mem_cons.mpr ⟨lw_p30, List.forall_mem_cons.mpr ⟨lw_p31, fun _ h => absurd h List.not_mem_nil⟩⟩⟩⟩⟩⟩⟩⟩⟩⟩⟩⟩⟩⟩⟩⟩
theorem lw_p32 : lw_okq (⟨"BottlingBook$Lots", "partsTimesShares", "(II)I"⟩, 8) := ⟨⟨by decide +kernel, by decide +kernel⟩, List.mem_of_getElem? (i := 35) (by decide +kernel), List.mem_of_getElem? (i := 497) (by decide +kernel), List.mem_of_getElem? (i := 498) (by decide +kernel)⟩
theorem lw_p33 : lw_okq (⟨"BottlingBook$Lots", "partsOf", "(I)I"⟩, 8) := ⟨⟨by decide +kernel, by decide +kernel⟩, List.mem_of_getElem? (i := 35) (by decide +kernel), List.mem_of_getElem? (i := 501) (by decide +kernel), List.mem_of_getElem? (i := 502) (by decide +kernel)⟩
theorem lw_p34 : lw_okq (⟨"BottlingBook$Table", "rankOf", "(II)I"⟩, 3) := ⟨⟨by decide +kernel, by decide +kernel⟩, List.mem_of_getElem? (i := 41) (by decide +kernel), List.mem_of_getElem? (i := 505) (by decide +kernel), List.mem_of_getElem? (i := 506) (by decide +kernel)⟩
theorem lw_p35 : lw_okq (⟨"BottlingBook", "requireLot", "(I)V"⟩, 10) := ⟨⟨by decide +kernel, by decide +kernel⟩, List.mem_of_getElem? (i := 21) (by decide +kernel), List.mem_of_getElem? (i := 517) (by decide +kernel), List.mem_of_getElem? (i := 518) (by decide +kernel)⟩
theorem lw_p36 : lw_okq (⟨"BottlingBook$Lots", "harvestsIn", "(I)I"⟩, 8) := ⟨⟨by decide +kernel, by decide +kernel⟩, List.mem_of_getElem? (i := 35) (by decide +kernel), List.mem_of_getElem? (i := 550) (by decide +kernel), List.mem_of_getElem? (i := 551) (by decide +kernel)⟩
theorem lw_p37 : lw_okq (⟨"BottlingBook$Lots", "blendsOf", "(I)I"⟩, 8) := ⟨⟨by decide +kernel, by decide +kernel⟩, List.mem_of_getElem? (i := 35) (by decide +kernel), List.mem_of_getElem? (i := 554) (by decide +kernel), List.mem_of_getElem? (i := 555) (by decide +kernel)⟩
theorem lw_p38 : lw_okq (⟨"BottlingBook$Lots", "partSetOf", "(I)I"⟩, 8) := ⟨⟨by decide +kernel, by decide +kernel⟩, List.mem_of_getElem? (i := 35) (by decide +kernel), List.mem_of_getElem? (i := 558) (by decide +kernel), List.mem_of_getElem? (i := 559) (by decide +kernel)⟩
theorem lw_p39 : lw_okq (⟨"BottlingBook$Lots", "numbersBy", "(I)I"⟩, 8) := ⟨⟨by decide +kernel, by decide +kernel⟩, List.mem_of_getElem? (i := 35) (by decide +kernel), List.mem_of_getElem? (i := 604) (by decide +kernel), List.mem_of_getElem? (i := 605) (by decide +kernel)⟩
theorem lw_p40 : lw_okq (⟨"BottlingBook$Lots", "shareBy", "(III)I"⟩, 8) := ⟨⟨by decide +kernel, by decide +kernel⟩, List.mem_of_getElem? (i := 35) (by decide +kernel), List.mem_of_getElem? (i := 608) (by decide +kernel), List.mem_of_getElem? (i := 609) (by decide +kernel)⟩
theorem lw_p41 : lw_okq (⟨"BottlingBook$Table", "columnAtRank", "(II)I"⟩, 3) := ⟨⟨by decide +kernel, by decide +kernel⟩, List.mem_of_getElem? (i := 41) (by decide +kernel), List.mem_of_getElem? (i := 620) (by decide +kernel), List.mem_of_getElem? (i := 621) (by decide +kernel)⟩
theorem lw_p42 : lw_okq (⟨"BottlingBook$Lots", "vintageSum", "(I)I"⟩, 8) := ⟨⟨by decide +kernel, by decide +kernel⟩, List.mem_of_getElem? (i := 35) (by decide +kernel), List.mem_of_getElem? (i := 632) (by decide +kernel), List.mem_of_getElem? (i := 633) (by decide +kernel)⟩
theorem lw_p43 : lw_okq (⟨"BottlingBook$State", "bottlingRefusal", "(IIIIII)I"⟩, 4) := ⟨⟨by decide +kernel, by decide +kernel⟩, List.mem_of_getElem? (i := 29) (by decide +kernel), List.mem_of_getElem? (i := 656) (by decide +kernel), List.mem_of_getElem? (i := 657) (by decide +kernel)⟩
theorem lw_p44 : lw_okq (⟨"BottlingBook$State", "labelRefusal", "(IIIII)I"⟩, 4) := ⟨⟨by decide +kernel, by decide +kernel⟩, List.mem_of_getElem? (i := 29) (by decide +kernel), List.mem_of_getElem? (i := 661) (by decide +kernel), List.mem_of_getElem? (i := 662) (by decide +kernel)⟩
theorem lw_p45 : lw_okq (⟨"BottlingBook$State", "isAllowed", "(III)Z"⟩, 4) := ⟨⟨by decide +kernel, by decide +kernel⟩, List.mem_of_getElem? (i := 29) (by decide +kernel), List.mem_of_getElem? (i := 665) (by decide +kernel), List.mem_of_getElem? (i := 666) (by decide +kernel)⟩
theorem lw_p46 : lw_okq (⟨"BottlingBook$State", "areAllowed", "(III)Z"⟩, 4) := ⟨⟨by decide +kernel, by decide +kernel⟩, List.mem_of_getElem? (i := 29) (by decide +kernel), List.mem_of_getElem? (i := 671) (by decide +kernel), List.mem_of_getElem? (i := 672) (by decide +kernel)⟩
theorem lw_p47 : lw_okq (⟨"BottlingBook$Bottlings", "fill", "(II)I"⟩, 2) := ⟨⟨by decide +kernel, by decide +kernel⟩, List.mem_of_getElem? (i := 93) (by decide +kernel), List.mem_of_getElem? (i := 675) (by decide +kernel), List.mem_of_getElem? (i := 676) (by decide +kernel)⟩
def lw_privs_3 : List (MethodName × Nat) := [(⟨"BottlingBook$Lots", "partsTimesShares", "(II)I"⟩, 8), (⟨"BottlingBook$Lots", "partsOf", "(I)I"⟩, 8), (⟨"BottlingBook$Table", "rankOf", "(II)I"⟩, 3), (⟨"BottlingBook", "requireLot", "(I)V"⟩, 10), (⟨"BottlingBook$Lots", "harvestsIn", "(I)I"⟩, 8), (⟨"BottlingBook$Lots", "blendsOf", "(I)I"⟩, 8), (⟨"BottlingBook$Lots", "partSetOf", "(I)I"⟩, 8), (⟨"BottlingBook$Lots", "numbersBy", "(I)I"⟩, 8), (⟨"BottlingBook$Lots", "shareBy", "(III)I"⟩, 8), (⟨"BottlingBook$Table", "columnAtRank", "(II)I"⟩, 3), (⟨"BottlingBook$Lots", "vintageSum", "(I)I"⟩, 8), (⟨"BottlingBook$State", "bottlingRefusal", "(IIIIII)I"⟩, 4), (⟨"BottlingBook$State", "labelRefusal", "(IIIII)I"⟩, 4), (⟨"BottlingBook$State", "isAllowed", "(III)Z"⟩, 4), (⟨"BottlingBook$State", "areAllowed", "(III)Z"⟩, 4), (⟨"BottlingBook$Bottlings", "fill", "(II)I"⟩, 2)]
theorem lw_r3 : ∀ q ∈ lw_privs_3, lw_okq q := List.forall_mem_cons.mpr ⟨lw_p32, List.forall_mem_cons.mpr ⟨lw_p33, List.forall_mem_cons.mpr ⟨lw_p34, List.forall_mem_cons.mpr ⟨lw_p35, List.forall_mem_cons.mpr ⟨lw_p36, List.forall_mem_cons.mpr ⟨lw_p37, List.forall_mem_cons.mpr ⟨lw_p38, List.forall_mem_cons.mpr ⟨lw_p39, List.forall_mem_cons.mpr ⟨lw_p40, List.forall_mem_cons.mpr ⟨lw_p41, List.forall_mem_cons.mpr ⟨lw_p42, List.forall_mem_cons.mpr ⟨lw_p43, List.forall_mem_cons.mpr ⟨lw_p44, List.forall_mem_cons.mpr ⟨lw_p45, List.forall_mem_cons.mpr ⟨lw_p46, List.forall_mem_cons.mpr ⟨lw_p47, fun _ h => absurd h List.not_mem_nil⟩⟩⟩⟩⟩⟩⟩⟩⟩⟩⟩⟩⟩⟩⟩⟩
theorem lw_p48 : lw_okq (⟨"BottlingBook$Bottlings", "putLabel", "(IIIII)V"⟩, 2) := ⟨⟨by decide +kernel, by decide +kernel⟩, List.mem_of_getElem? (i := 93) (by decide +kernel), List.mem_of_getElem? (i := 680) (by decide +kernel), List.mem_of_getElem? (i := 681) (by decide +kernel)⟩
theorem lw_p49 : lw_okq (⟨"BottlingBook$Customers", "lineUp", "(ILBottlingBook$Table;)I"⟩, 4) := ⟨⟨by decide +kernel, by decide +kernel⟩, List.mem_of_getElem? (i := 112) (by decide +kernel), List.mem_of_getElem? (i := 699) (by decide +kernel), List.mem_of_getElem? (i := 700) (by decide +kernel)⟩
theorem lw_p50 : lw_okq (⟨"BottlingBook$Customers", "missingTo", "(II)I"⟩, 4) := ⟨⟨by decide +kernel, by decide +kernel⟩, List.mem_of_getElem? (i := 112) (by decide +kernel), List.mem_of_getElem? (i := 704) (by decide +kernel), List.mem_of_getElem? (i := 705) (by decide +kernel)⟩
theorem lw_p51 : lw_okq (⟨"BottlingBook$State", "isLabelAllowed", "(I)Z"⟩, 4) := ⟨⟨by decide +kernel, by decide +kernel⟩, List.mem_of_getElem? (i := 29) (by decide +kernel), List.mem_of_getElem? (i := 710) (by decide +kernel), List.mem_of_getElem? (i := 711) (by decide +kernel)⟩
theorem lw_p52 : lw_okq (⟨"BottlingBook$Bottlings", "lotOf", "(I)I"⟩, 2) := ⟨⟨by decide +kernel, by decide +kernel⟩, List.mem_of_getElem? (i := 93) (by decide +kernel), List.mem_of_getElem? (i := 714) (by decide +kernel), List.mem_of_getElem? (i := 715) (by decide +kernel)⟩
theorem lw_p53 : lw_okq (⟨"BottlingBook$Customers", "enter", "(I)I"⟩, 4) := ⟨⟨by decide +kernel, by decide +kernel⟩, List.mem_of_getElem? (i := 112) (by decide +kernel), List.mem_of_getElem? (i := 735) (by decide +kernel), List.mem_of_getElem? (i := 736) (by decide +kernel)⟩
theorem lw_p54 : lw_okq (⟨"BottlingBook", "requireCustomerAndBottling", "(II)V"⟩, 10) := ⟨⟨by decide +kernel, by decide +kernel⟩, List.mem_of_getElem? (i := 21) (by decide +kernel), List.mem_of_getElem? (i := 746) (by decide +kernel), List.mem_of_getElem? (i := 747) (by decide +kernel)⟩
theorem lw_p55 : lw_okq (⟨"BottlingBook$Bottlings", "stockOf", "(I)I"⟩, 2) := ⟨⟨by decide +kernel, by decide +kernel⟩, List.mem_of_getElem? (i := 93) (by decide +kernel), List.mem_of_getElem? (i := 757) (by decide +kernel), List.mem_of_getElem? (i := 758) (by decide +kernel)⟩
theorem lw_p56 : lw_okq (⟨"BottlingBook$Customers", "handOut", "(IILBottlingBook$Table;)I"⟩, 4) := ⟨⟨by decide +kernel, by decide +kernel⟩, List.mem_of_getElem? (i := 112) (by decide +kernel), List.mem_of_getElem? (i := 761) (by decide +kernel), List.mem_of_getElem? (i := 762) (by decide +kernel)⟩
theorem lw_p57 : lw_okq (⟨"BottlingBook$Customers", "handTo", "(III)I"⟩, 4) := ⟨⟨by decide +kernel, by decide +kernel⟩, List.mem_of_getElem? (i := 112) (by decide +kernel), List.mem_of_getElem? (i := 766) (by decide +kernel), List.mem_of_getElem? (i := 767) (by decide +kernel)⟩
theorem lw_p58 : lw_okq (⟨"BottlingBook$Customers", "portionOf", "(I)I"⟩, 4) := ⟨⟨by decide +kernel, by decide +kernel⟩, List.mem_of_getElem? (i := 112) (by decide +kernel), List.mem_of_getElem? (i := 770) (by decide +kernel), List.mem_of_getElem? (i := 771) (by decide +kernel)⟩
theorem lw_p59 : lw_okq (⟨"BottlingBook$Bottlings", "addToStock", "(II)V"⟩, 2) := ⟨⟨by decide +kernel, by decide +kernel⟩, List.mem_of_getElem? (i := 93) (by decide +kernel), List.mem_of_getElem? (i := 776) (by decide +kernel), List.mem_of_getElem? (i := 777) (by decide +kernel)⟩
theorem lw_p60 : lw_okq (⟨"BottlingBook$Customers", "handIn", "(III)I"⟩, 4) := ⟨⟨by decide +kernel, by decide +kernel⟩, List.mem_of_getElem? (i := 112) (by decide +kernel), List.mem_of_getElem? (i := 788) (by decide +kernel), List.mem_of_getElem? (i := 789) (by decide +kernel)⟩
theorem lw_p61 : lw_okq (⟨"BottlingBook$Table", "columnOf", "(II)I"⟩, 3) := ⟨⟨by decide +kernel, by decide +kernel⟩, List.mem_of_getElem? (i := 41) (by decide +kernel), List.mem_of_getElem? (i := 799) (by decide +kernel), List.mem_of_getElem? (i := 800) (by decide +kernel)⟩
theorem lw_p62 : lw_okq (⟨"BottlingBook$Lots", "allMadeOf", "(I)I"⟩, 8) := ⟨⟨by decide +kernel, by decide +kernel⟩, List.mem_of_getElem? (i := 35) (by decide +kernel), List.mem_of_getElem? (i := 817) (by decide +kernel), List.mem_of_getElem? (i := 818) (by decide +kernel)⟩
theorem lw_p63 : lw_okq (⟨"BottlingBook$Bottlings", "ofLots", "(I)I"⟩, 2) := ⟨⟨by decide +kernel, by decide +kernel⟩, List.mem_of_getElem? (i := 93) (by decide +kernel), List.mem_of_getElem? (i := 822) (by decide +kernel), List.mem_of_getElem? (i := 823) (by decide +kernel)⟩
def lw_privs_4 : List (MethodName × Nat) := [(⟨"BottlingBook$Bottlings", "putLabel", "(IIIII)V"⟩, 2), (⟨"BottlingBook$Customers", "lineUp", "(ILBottlingBook$Table;)I"⟩, 4), (⟨"BottlingBook$Customers", "missingTo", "(II)I"⟩, 4), (⟨"BottlingBook$State", "isLabelAllowed", "(I)Z"⟩, 4), (⟨"BottlingBook$Bottlings", "lotOf", "(I)I"⟩, 2), (⟨"BottlingBook$Customers", "enter", "(I)I"⟩, 4), (⟨"BottlingBook", "requireCustomerAndBottling", "(II)V"⟩, 10), (⟨"BottlingBook$Bottlings", "stockOf", "(I)I"⟩, 2), (⟨"BottlingBook$Customers", "handOut", "(IILBottlingBook$Table;)I"⟩, 4), (⟨"BottlingBook$Customers", "handTo", "(III)I"⟩, 4), (⟨"BottlingBook$Customers", "portionOf", "(I)I"⟩, 4), (⟨"BottlingBook$Bottlings", "addToStock", "(II)V"⟩, 2), (⟨"BottlingBook$Customers", "handIn", "(III)I"⟩, 4), (⟨"BottlingBook$Table", "columnOf", "(II)I"⟩, 3), (⟨"BottlingBook$Lots", "allMadeOf", "(I)I"⟩, 8), (⟨"BottlingBook$Bottlings", "ofLots", "(I)I"⟩, 2)]
theorem lw_r4 : ∀ q ∈ lw_privs_4, lw_okq q := List.forall_mem_cons.mpr ⟨lw_p48, List.forall_mem_cons.mpr ⟨lw_p49, List.forall_mem_cons.mpr ⟨lw_p50, List.forall_mem_cons.mpr ⟨lw_p51, List.forall_mem_cons.mpr ⟨lw_p52, List.forall_mem_cons.mpr ⟨lw_p53, List.forall_mem_cons.mpr ⟨lw_p54, List.forall_mem_cons.mpr ⟨lw_p55, List.forall_mem_cons.mpr ⟨lw_p56, List.forall_mem_cons.mpr ⟨lw_p57, List.forall_mem_cons.mpr ⟨lw_p58, List.forall_mem_cons.mpr ⟨lw_p59, List.forall_mem_cons.mpr ⟨lw_p60, List.forall_mem_cons.mpr ⟨lw_p61, List.forall_mem_cons.mpr ⟨lw_p62, List.forall_mem_cons.mpr ⟨lw_p63, fun _ h => absurd h List.not_mem_nil⟩⟩⟩⟩⟩⟩⟩⟩⟩⟩⟩⟩⟩⟩⟩⟩
theorem lw_p64 : lw_okq (⟨"BottlingBook$Lots", "allThatMake", "(I)I"⟩, 8) := ⟨⟨by decide +kernel, by decide +kernel⟩, List.mem_of_getElem? (i := 35) (by decide +kernel), List.mem_of_getElem? (i := 836) (by decide +kernel), List.mem_of_getElem? (i := 837) (by decide +kernel)⟩
theorem lw_p65 : lw_okq (⟨"BottlingBook$Bottlings", "stockOfAll", "(I)I"⟩, 2) := ⟨⟨by decide +kernel, by decide +kernel⟩, List.mem_of_getElem? (i := 93) (by decide +kernel), List.mem_of_getElem? (i := 848) (by decide +kernel), List.mem_of_getElem? (i := 849) (by decide +kernel)⟩
theorem lw_p66 : lw_okq (⟨"BottlingBook$Customers", "heldOfAll", "(II)I"⟩, 4) := ⟨⟨by decide +kernel, by decide +kernel⟩, List.mem_of_getElem? (i := 112) (by decide +kernel), List.mem_of_getElem? (i := 853) (by decide +kernel), List.mem_of_getElem? (i := 854) (by decide +kernel)⟩
theorem lw_p67 : lw_okq (⟨"BottlingBook$Lots", "waysInto", "(IILBottlingBook$Table;)I"⟩, 8) := ⟨⟨by decide +kernel, by decide +kernel⟩, List.mem_of_getElem? (i := 35) (by decide +kernel), List.mem_of_getElem? (i := 865) (by decide +kernel), List.mem_of_getElem? (i := 866) (by decide +kernel)⟩
theorem lw_p68 : lw_okq (⟨"BottlingBook$Lots", "harvestedQuarters", "()I"⟩, 8) := ⟨⟨by decide +kernel, by decide +kernel⟩, List.mem_of_getElem? (i := 35) (by decide +kernel), List.mem_of_getElem? (i := 876) (by decide +kernel), List.mem_of_getElem? (i := 877) (by decide +kernel)⟩
theorem lw_p69 : lw_okq (⟨"BottlingBook$Lots", "leftInAll", "()I"⟩, 8) := ⟨⟨by decide +kernel, by decide +kernel⟩, List.mem_of_getElem? (i := 35) (by decide +kernel), List.mem_of_getElem? (i := 880) (by decide +kernel), List.mem_of_getElem? (i := 881) (by decide +kernel)⟩
theorem lw_p70 : lw_okq (⟨"BottlingBook$Table", "sumOfColumn", "(I)I"⟩, 3) := ⟨⟨by decide +kernel, by decide +kernel⟩, List.mem_of_getElem? (i := 41) (by decide +kernel), List.mem_of_getElem? (i := 884) (by decide +kernel), List.mem_of_getElem? (i := 885) (by decide +kernel)⟩
theorem lw_p71 : lw_okq (⟨"BottlingBook$Bottlings", "bottledQuarters", "()I"⟩, 2) := ⟨⟨by decide +kernel, by decide +kernel⟩, List.mem_of_getElem? (i := 93) (by decide +kernel), List.mem_of_getElem? (i := 888) (by decide +kernel), List.mem_of_getElem? (i := 889) (by decide +kernel)⟩
theorem lw_p72 : lw_okq (⟨"BottlingBook$Customers", "heldByAll", "()I"⟩, 4) := ⟨⟨by decide +kernel, by decide +kernel⟩, List.mem_of_getElem? (i := 112) (by decide +kernel), List.mem_of_getElem? (i := 893) (by decide +kernel), List.mem_of_getElem? (i := 894) (by decide +kernel)⟩
theorem lw_p73 : lw_okq (⟨"BottlingBook$Input", "append", "(C)I"⟩, 6) := ⟨⟨by decide +kernel, by decide +kernel⟩, List.mem_of_getElem? (i := 183) (by decide +kernel), List.mem_of_getElem? (i := 906) (by decide +kernel), List.mem_of_getElem? (i := 907) (by decide +kernel)⟩
theorem lw_p74 : lw_okq (⟨"BottlingBook$History", "takeBack", "(LBottlingBook$State;)V"⟩, 3) := ⟨⟨by decide +kernel, by decide +kernel⟩, List.mem_of_getElem? (i := 163) (by decide +kernel), List.mem_of_getElem? (i := 926) (by decide +kernel), List.mem_of_getElem? (i := 927) (by decide +kernel)⟩
theorem lw_p75 : lw_okq (⟨"BottlingBookModel", "fail", "(I)I"⟩, 19) := ⟨⟨by decide +kernel, by decide +kernel⟩, List.mem_of_getElem? (i := 938) (by decide +kernel), List.mem_of_getElem? (i := 1013) (by decide +kernel), List.mem_of_getElem? (i := 1014) (by decide +kernel)⟩
theorem lw_p76 : lw_okq (⟨"BottlingBookModel", "remember", "()V"⟩, 19) := ⟨⟨by decide +kernel, by decide +kernel⟩, List.mem_of_getElem? (i := 938) (by decide +kernel), List.mem_of_getElem? (i := 1017) (by decide +kernel), List.mem_of_getElem? (i := 1018) (by decide +kernel)⟩
theorem lw_p77 : lw_okq (⟨"BottlingBookModel", "comes", "(III)I"⟩, 19) := ⟨⟨by decide +kernel, by decide +kernel⟩, List.mem_of_getElem? (i := 938) (by decide +kernel), List.mem_of_getElem? (i := 1021) (by decide +kernel), List.mem_of_getElem? (i := 1022) (by decide +kernel)⟩
theorem lw_p78 : lw_okq (⟨"BottlingBookModel", "setL", "(III)V"⟩, 19) := ⟨⟨by decide +kernel, by decide +kernel⟩, List.mem_of_getElem? (i := 938) (by decide +kernel), List.mem_of_getElem? (i := 1025) (by decide +kernel), List.mem_of_getElem? (i := 1026) (by decide +kernel)⟩
theorem lw_p79 : lw_okq (⟨"BottlingBookModel", "reads", "()V"⟩, 19) := ⟨⟨by decide +kernel, by decide +kernel⟩, List.mem_of_getElem? (i := 938) (by decide +kernel), List.mem_of_getElem? (i := 1033) (by decide +kernel), List.mem_of_getElem? (i := 1034) (by decide +kernel)⟩
def lw_privs_5 : List (MethodName × Nat) := [(⟨"BottlingBook$Lots", "allThatMake", "(I)I"⟩, 8), (⟨"BottlingBook$Bottlings", "stockOfAll", "(I)I"⟩, 2), (⟨"BottlingBook$Customers", "heldOfAll", "(II)I"⟩, 4), (⟨"BottlingBook$Lots", "waysInto", "(IILBottlingBook$Table;)I"⟩, 8), (⟨"BottlingBook$Lots", "harvestedQuarters", "()I"⟩, 8), (⟨"BottlingBook$Lots", "leftInAll", "()I"⟩, 8), (⟨"BottlingBook$Table", "sumOfColumn", "(I)I"⟩, 3), (⟨"BottlingBook$Bottlings", "bottledQuarters", "()I"⟩, 2), (⟨"BottlingBook$Customers", "heldByAll", "()I"⟩, 4), (⟨"BottlingBook$Input", "append", "(C)I"⟩, 6), (⟨"BottlingBook$History", "takeBack", "(LBottlingBook$State;)V"⟩, 3), (⟨"BottlingBookModel", "fail", "(I)I"⟩, 19), (⟨"BottlingBookModel", "remember", "()V"⟩, 19), (⟨"BottlingBookModel", "comes", "(III)I"⟩, 19), (⟨"BottlingBookModel", "setL", "(III)V"⟩, 19), (⟨"BottlingBookModel", "reads", "()V"⟩, 19)]
theorem lw_r5 : ∀ q ∈ lw_privs_5, lw_okq q := List.forall_mem_cons.mpr ⟨lw_p64, List.forall_mem_cons.mpr ⟨lw_p65, List.forall_mem_cons.mpr ⟨lw_p66, List.forall_mem_cons.mpr ⟨lw_p67, List.forall_mem_cons.mpr ⟨lw_p68, List.forall_mem_cons.mpr ⟨lw_p69, List.forall_mem_cons.mpr ⟨lw_p70, List.forall_mem_cons.mpr ⟨lw_p71, List.forall_mem_cons.mpr ⟨lw_p72, List.forall_mem_cons.mpr ⟨lw_p73, List.forall_mem_cons.mpr ⟨lw_p74, List.forall_mem_cons.mpr ⟨lw_p75, List.forall_mem_cons.mpr ⟨lw_p76, List.forall_mem_cons.mpr ⟨lw_p77, List.forall_mem_cons.mpr ⟨lw_p78, List.forall_mem_cons.mpr ⟨lw_p79, fun _ h => absurd h List.not_mem_nil⟩⟩⟩⟩⟩⟩⟩⟩⟩⟩⟩⟩⟩⟩⟩⟩
theorem lw_p80 : lw_okq (⟨"BottlingBookModel", "readsPart", "()V"⟩, 19) := ⟨⟨by decide +kernel, by decide +kernel⟩, List.mem_of_getElem? (i := 938) (by decide +kernel), List.mem_of_getElem? (i := 1037) (by decide +kernel), List.mem_of_getElem? (i := 1038) (by decide +kernel)⟩
theorem lw_p81 : lw_okq (⟨"BottlingBookModel", "number", "()I"⟩, 19) := ⟨⟨by decide +kernel, by decide +kernel⟩, List.mem_of_getElem? (i := 938) (by decide +kernel), List.mem_of_getElem? (i := 1041) (by decide +kernel), List.mem_of_getElem? (i := 1042) (by decide +kernel)⟩
theorem lw_p82 : lw_okq (⟨"BottlingBookModel", "isDigit", "()Z"⟩, 19) := ⟨⟨by decide +kernel, by decide +kernel⟩, List.mem_of_getElem? (i := 938) (by decide +kernel), List.mem_of_getElem? (i := 1045) (by decide +kernel), List.mem_of_getElem? (i := 1046) (by decide +kernel)⟩
theorem lw_p83 : lw_okq (⟨"BottlingBookModel", "goesOn", "(C)Z"⟩, 19) := ⟨⟨by decide +kernel, by decide +kernel⟩, List.mem_of_getElem? (i := 938) (by decide +kernel), List.mem_of_getElem? (i := 1049) (by decide +kernel), List.mem_of_getElem? (i := 1050) (by decide +kernel)⟩
theorem lw_p84 : lw_okq (⟨"BottlingBookModel", "isAnyNothing", "()Z"⟩, 19) := ⟨⟨by decide +kernel, by decide +kernel⟩, List.mem_of_getElem? (i := 938) (by decide +kernel), List.mem_of_getElem? (i := 1053) (by decide +kernel), List.mem_of_getElem? (i := 1054) (by decide +kernel)⟩
theorem lw_p85 : lw_okq (⟨"BottlingBookModel", "refusal", "()I"⟩, 19) := ⟨⟨by decide +kernel, by decide +kernel⟩, List.mem_of_getElem? (i := 938) (by decide +kernel), List.mem_of_getElem? (i := 1057) (by decide +kernel), List.mem_of_getElem? (i := 1058) (by decide +kernel)⟩
theorem lw_p86 : lw_okq (⟨"BottlingBookModel", "areLots", "()Z"⟩, 19) := ⟨⟨by decide +kernel, by decide +kernel⟩, List.mem_of_getElem? (i := 938) (by decide +kernel), List.mem_of_getElem? (i := 1061) (by decide +kernel), List.mem_of_getElem? (i := 1062) (by decide +kernel)⟩
theorem lw_p87 : lw_okq (⟨"BottlingBookModel", "isLot", "(I)Z"⟩, 19) := ⟨⟨by decide +kernel, by decide +kernel⟩, List.mem_of_getElem? (i := 938) (by decide +kernel), List.mem_of_getElem? (i := 1065) (by decide +kernel), List.mem_of_getElem? (i := 1066) (by decide +kernel)⟩
theorem lw_p88 : lw_okq (⟨"BottlingBookModel", "isEnough", "()Z"⟩, 19) := ⟨⟨by decide +kernel, by decide +kernel⟩, List.mem_of_getElem? (i := 938) (by decide +kernel), List.mem_of_getElem? (i := 1069) (by decide +kernel), List.mem_of_getElem? (i := 1070) (by decide +kernel)⟩
theorem lw_p89 : lw_okq (⟨"BottlingBookModel", "l", "(II)I"⟩, 19) := ⟨⟨by decide +kernel, by decide +kernel⟩, List.mem_of_getElem? (i := 938) (by decide +kernel), List.mem_of_getElem? (i := 1073) (by decide +kernel), List.mem_of_getElem? (i := 1074) (by decide +kernel)⟩
theorem lw_p90 : lw_okq (⟨"BottlingBookModel", "nextGeneration", "()I"⟩, 19) := ⟨⟨by decide +kernel, by decide +kernel⟩, List.mem_of_getElem? (i := 938) (by decide +kernel), List.mem_of_getElem? (i := 1077) (by decide +kernel), List.mem_of_getElem? (i := 1078) (by decide +kernel)⟩
theorem lw_p91 : lw_okq (⟨"BottlingBookModel", "refuse", "(II)I"⟩, 19) := ⟨⟨by decide +kernel, by decide +kernel⟩, List.mem_of_getElem? (i := 938) (by decide +kernel), List.mem_of_getElem? (i := 1081) (by decide +kernel), List.mem_of_getElem? (i := 1082) (by decide +kernel)⟩
theorem lw_p92 : lw_okq (⟨"BottlingBookModel", "findShares", "(I)V"⟩, 19) := ⟨⟨by decide +kernel, by decide +kernel⟩, List.mem_of_getElem? (i := 938) (by decide +kernel), List.mem_of_getElem? (i := 1085) (by decide +kernel), List.mem_of_getElem? (i := 1086) (by decide +kernel)⟩
theorem lw_p93 : lw_okq (⟨"BottlingBookModel", "harvestsIn", "(I)I"⟩, 19) := ⟨⟨by decide +kernel, by decide +kernel⟩, List.mem_of_getElem? (i := 938) (by decide +kernel), List.mem_of_getElem? (i := 1097) (by decide +kernel), List.mem_of_getElem? (i := 1098) (by decide +kernel)⟩
theorem lw_p94 : lw_okq (⟨"BottlingBookModel", "blendsOf", "(I)I"⟩, 19) := ⟨⟨by decide +kernel, by decide +kernel⟩, List.mem_of_getElem? (i := 938) (by decide +kernel), List.mem_of_getElem? (i := 1101) (by decide +kernel), List.mem_of_getElem? (i := 1102) (by decide +kernel)⟩
theorem lw_p95 : lw_okq (⟨"BottlingBookModel", "isPartOf", "(II)Z"⟩, 19) := ⟨⟨by decide +kernel, by decide +kernel⟩, List.mem_of_getElem? (i := 938) (by decide +kernel), List.mem_of_getElem? (i := 1105) (by decide +kernel), List.mem_of_getElem? (i := 1106) (by decide +kernel)⟩
def lw_privs_6 : List (MethodName × Nat) := [(⟨"BottlingBookModel", "readsPart", "()V"⟩, 19), (⟨"BottlingBookModel", "number", "()I"⟩, 19), (⟨"BottlingBookModel", "isDigit", "()Z"⟩, 19), (⟨"BottlingBookModel", "goesOn", "(C)Z"⟩, 19), (⟨"BottlingBookModel", "isAnyNothing", "()Z"⟩, 19), (⟨"BottlingBookModel", "refusal", "()I"⟩, 19), (⟨"BottlingBookModel", "areLots", "()Z"⟩, 19), (⟨"BottlingBookModel", "isLot", "(I)Z"⟩, 19), (⟨"BottlingBookModel", "isEnough", "()Z"⟩, 19), (⟨"BottlingBookModel", "l", "(II)I"⟩, 19), (⟨"BottlingBookModel", "nextGeneration", "()I"⟩, 19), (⟨"BottlingBookModel", "refuse", "(II)I"⟩, 19), (⟨"BottlingBookModel", "findShares", "(I)V"⟩, 19), (⟨"BottlingBookModel", "harvestsIn", "(I)I"⟩, 19), (⟨"BottlingBookModel", "blendsOf", "(I)I"⟩, 19), (⟨"BottlingBookModel", "isPartOf", "(II)Z"⟩, 19)]
theorem lw_r6 : ∀ q ∈ lw_privs_6, lw_okq q := List.forall_mem_cons.mpr ⟨lw_p80, List.forall_mem_cons.mpr ⟨lw_p81, List.forall_mem_cons.mpr ⟨lw_p82, List.forall_mem_cons.mpr ⟨lw_p83, List.forall_mem_cons.mpr ⟨lw_p84, List.forall_mem_cons.mpr ⟨lw_p85, List.forall_mem_cons.mpr ⟨lw_p86, List.forall_mem_cons.mpr ⟨lw_p87, List.forall_mem_cons.mpr ⟨lw_p88, List.forall_mem_cons.mpr ⟨lw_p89, List.forall_mem_cons.mpr ⟨lw_p90, List.forall_mem_cons.mpr ⟨lw_p91, List.forall_mem_cons.mpr ⟨lw_p92, List.forall_mem_cons.mpr ⟨lw_p93, List.forall_mem_cons.mpr ⟨lw_p94, List.forall_mem_cons.mpr ⟨lw_p95, fun _ h => absurd h List.not_mem_nil⟩⟩⟩⟩⟩⟩⟩⟩⟩⟩⟩⟩⟩⟩⟩⟩
theorem lw_p96 : lw_okq (⟨"BottlingBookModel", "shareOf", "(III)I"⟩, 19) := ⟨⟨by decide +kernel, by decide +kernel⟩, List.mem_of_getElem? (i := 938) (by decide +kernel), List.mem_of_getElem? (i := 1120) (by decide +kernel), List.mem_of_getElem? (i := 1121) (by decide +kernel)⟩
theorem lw_p97 : lw_okq (⟨"BottlingBookModel", "h", "(II)I"⟩, 19) := ⟨⟨by decide +kernel, by decide +kernel⟩, List.mem_of_getElem? (i := 938) (by decide +kernel), List.mem_of_getElem? (i := 1124) (by decide +kernel), List.mem_of_getElem? (i := 1125) (by decide +kernel)⟩
theorem lw_p98 : lw_okq (⟨"BottlingBookModel", "forbidding", "(IIIII)I"⟩, 19) := ⟨⟨by decide +kernel, by decide +kernel⟩, List.mem_of_getElem? (i := 938) (by decide +kernel), List.mem_of_getElem? (i := 1148) (by decide +kernel), List.mem_of_getElem? (i := 1149) (by decide +kernel)⟩
theorem lw_p99 : lw_okq (⟨"BottlingBookModel", "areGrapesAllowed", "(III)Z"⟩, 19) := ⟨⟨by decide +kernel, by decide +kernel⟩, List.mem_of_getElem? (i := 938) (by decide +kernel), List.mem_of_getElem? (i := 1152) (by decide +kernel), List.mem_of_getElem? (i := 1153) (by decide +kernel)⟩
theorem lw_p100 : lw_okq (⟨"BottlingBookModel", "setB", "(III)V"⟩, 19) := ⟨⟨by decide +kernel, by decide +kernel⟩, List.mem_of_getElem? (i := 938) (by decide +kernel), List.mem_of_getElem? (i := 1156) (by decide +kernel), List.mem_of_getElem? (i := 1157) (by decide +kernel)⟩
theorem lw_p101 : lw_okq (⟨"BottlingBookModel", "isBottling", "(I)Z"⟩, 19) := ⟨⟨by decide +kernel, by decide +kernel⟩, List.mem_of_getElem? (i := 938) (by decide +kernel), List.mem_of_getElem? (i := 1168) (by decide +kernel), List.mem_of_getElem? (i := 1169) (by decide +kernel)⟩
theorem lw_p102 : lw_okq (⟨"BottlingBookModel", "b", "(II)I"⟩, 19) := ⟨⟨by decide +kernel, by decide +kernel⟩, List.mem_of_getElem? (i := 938) (by decide +kernel), List.mem_of_getElem? (i := 1172) (by decide +kernel), List.mem_of_getElem? (i := 1173) (by decide +kernel)⟩
theorem lw_p103 : lw_okq (⟨"BottlingBookModel", "listMany", "(I)I"⟩, 19) := ⟨⟨by decide +kernel, by decide +kernel⟩, List.mem_of_getElem? (i := 938) (by decide +kernel), List.mem_of_getElem? (i := 1176) (by decide +kernel), List.mem_of_getElem? (i := 1177) (by decide +kernel)⟩
theorem lw_p104 : lw_okq (⟨"BottlingBookModel", "isListed", "(II)Z"⟩, 19) := ⟨⟨by decide +kernel, by decide +kernel⟩, List.mem_of_getElem? (i := 938) (by decide +kernel), List.mem_of_getElem? (i := 1180) (by decide +kernel), List.mem_of_getElem? (i := 1181) (by decide +kernel)⟩
theorem lw_p105 : lw_okq (⟨"BottlingBookModel", "held", "(II)I"⟩, 19) := ⟨⟨by decide +kernel, by decide +kernel⟩, List.mem_of_getElem? (i := 938) (by decide +kernel), List.mem_of_getElem? (i := 1184) (by decide +kernel), List.mem_of_getElem? (i := 1185) (by decide +kernel)⟩
theorem lw_p106 : lw_okq (⟨"BottlingBookModel", "wished", "(II)I"⟩, 19) := ⟨⟨by decide +kernel, by decide +kernel⟩, List.mem_of_getElem? (i := 938) (by decide +kernel), List.mem_of_getElem? (i := 1188) (by decide +kernel), List.mem_of_getElem? (i := 1189) (by decide +kernel)⟩
theorem lw_p107 : lw_okq (⟨"BottlingBookModel", "isAllowedNow", "(I)Z"⟩, 19) := ⟨⟨by decide +kernel, by decide +kernel⟩, List.mem_of_getElem? (i := 938) (by decide +kernel), List.mem_of_getElem? (i := 1192) (by decide +kernel), List.mem_of_getElem? (i := 1193) (by decide +kernel)⟩
theorem lw_p108 : lw_okq (⟨"BottlingBookModel", "isCustomer", "(I)Z"⟩, 19) := ⟨⟨by decide +kernel, by decide +kernel⟩, List.mem_of_getElem? (i := 938) (by decide +kernel), List.mem_of_getElem? (i := 1208) (by decide +kernel), List.mem_of_getElem? (i := 1209) (by decide +kernel)⟩
theorem lw_p109 : lw_okq (⟨"BottlingBookModel", "round", "(I)I"⟩, 19) := ⟨⟨by decide +kernel, by decide +kernel⟩, List.mem_of_getElem? (i := 938) (by decide +kernel), List.mem_of_getElem? (i := 1216) (by decide +kernel), List.mem_of_getElem? (i := 1217) (by decide +kernel)⟩
theorem lw_p110 : lw_okq (⟨"BottlingBookModel", "customerAt", "(II)I"⟩, 19) := ⟨⟨by decide +kernel, by decide +kernel⟩, List.mem_of_getElem? (i := 938) (by decide +kernel), List.mem_of_getElem? (i := 1220) (by decide +kernel), List.mem_of_getElem? (i := 1221) (by decide +kernel)⟩
theorem lw_p111 : lw_okq (⟨"BottlingBookModel", "placeOf", "(II)I"⟩, 19) := ⟨⟨by decide +kernel, by decide +kernel⟩, List.mem_of_getElem? (i := 938) (by decide +kernel), List.mem_of_getElem? (i := 1224) (by decide +kernel), List.mem_of_getElem? (i := 1225) (by decide +kernel)⟩
def lw_privs_7 : List (MethodName × Nat) := [(⟨"BottlingBookModel", "shareOf", "(III)I"⟩, 19), (⟨"BottlingBookModel", "h", "(II)I"⟩, 19), (⟨"BottlingBookModel", "forbidding", "(IIIII)I"⟩, 19), (⟨"BottlingBookModel", "areGrapesAllowed", "(III)Z"⟩, 19), (⟨"BottlingBookModel", "setB", "(III)V"⟩, 19), (⟨"BottlingBookModel", "isBottling", "(I)Z"⟩, 19), (⟨"BottlingBookModel", "b", "(II)I"⟩, 19), (⟨"BottlingBookModel", "listMany", "(I)I"⟩, 19), (⟨"BottlingBookModel", "isListed", "(II)Z"⟩, 19), (⟨"BottlingBookModel", "held", "(II)I"⟩, 19), (⟨"BottlingBookModel", "wished", "(II)I"⟩, 19), (⟨"BottlingBookModel", "isAllowedNow", "(I)Z"⟩, 19), (⟨"BottlingBookModel", "isCustomer", "(I)Z"⟩, 19), (⟨"BottlingBookModel", "round", "(I)I"⟩, 19), (⟨"BottlingBookModel", "customerAt", "(II)I"⟩, 19), (⟨"BottlingBookModel", "placeOf", "(II)I"⟩, 19)]
theorem lw_r7 : ∀ q ∈ lw_privs_7, lw_okq q := List.forall_mem_cons.mpr ⟨lw_p96, List.forall_mem_cons.mpr ⟨lw_p97, List.forall_mem_cons.mpr ⟨lw_p98, List.forall_mem_cons.mpr ⟨lw_p99, List.forall_mem_cons.mpr ⟨lw_p100, List.forall_mem_cons.mpr ⟨lw_p101, List.forall_mem_cons.mpr ⟨lw_p102, List.forall_mem_cons.mpr ⟨lw_p103, List.forall_mem_cons.mpr ⟨lw_p104, List.forall_mem_cons.mpr ⟨lw_p105, List.forall_mem_cons.mpr ⟨lw_p106, List.forall_mem_cons.mpr ⟨lw_p107, List.forall_mem_cons.mpr ⟨lw_p108, List.forall_mem_cons.mpr ⟨lw_p109, List.forall_mem_cons.mpr ⟨lw_p110, List.forall_mem_cons.mpr ⟨lw_p111, fun _ h => absurd h List.not_mem_nil⟩⟩⟩⟩⟩⟩⟩⟩⟩⟩⟩⟩⟩⟩⟩⟩
theorem lw_p112 : lw_okq (⟨"BottlingBookModel", "isAhead", "(II)Z"⟩, 19) := ⟨⟨by decide +kernel, by decide +kernel⟩, List.mem_of_getElem? (i := 938) (by decide +kernel), List.mem_of_getElem? (i := 1228) (by decide +kernel), List.mem_of_getElem? (i := 1229) (by decide +kernel)⟩
theorem lw_p113 : lw_okq (⟨"BottlingBookModel", "portionOf", "(I)I"⟩, 19) := ⟨⟨by decide +kernel, by decide +kernel⟩, List.mem_of_getElem? (i := 938) (by decide +kernel), List.mem_of_getElem? (i := 1232) (by decide +kernel), List.mem_of_getElem? (i := 1233) (by decide +kernel)⟩
theorem lw_p114 : lw_okq (⟨"BottlingBookModel", "recalling", "(I)I"⟩, 19) := ⟨⟨by decide +kernel, by decide +kernel⟩, List.mem_of_getElem? (i := 938) (by decide +kernel), List.mem_of_getElem? (i := 1255) (by decide +kernel), List.mem_of_getElem? (i := 1256) (by decide +kernel)⟩
theorem lw_p115 : lw_okq (⟨"BottlingBookModel", "findWays", "(I)V"⟩, 19) := ⟨⟨by decide +kernel, by decide +kernel⟩, List.mem_of_getElem? (i := 938) (by decide +kernel), List.mem_of_getElem? (i := 1259) (by decide +kernel), List.mem_of_getElem? (i := 1260) (by decide +kernel)⟩
theorem lw_p116 : lw_okq (⟨"BottlingBookModel", "sumOfHarvests", "()I"⟩, 19) := ⟨⟨by decide +kernel, by decide +kernel⟩, List.mem_of_getElem? (i := 938) (by decide +kernel), List.mem_of_getElem? (i := 1279) (by decide +kernel), List.mem_of_getElem? (i := 1280) (by decide +kernel)⟩
theorem lw_p117 : lw_okq (⟨"BottlingBookModel", "sumOfLots", "()I"⟩, 19) := ⟨⟨by decide +kernel, by decide +kernel⟩, List.mem_of_getElem? (i := 938) (by decide +kernel), List.mem_of_getElem? (i := 1283) (by decide +kernel), List.mem_of_getElem? (i := 1284) (by decide +kernel)⟩
theorem lw_p118 : lw_okq (⟨"BottlingBookModel", "sumOfBottles", "(I)I"⟩, 19) := ⟨⟨by decide +kernel, by decide +kernel⟩, List.mem_of_getElem? (i := 938) (by decide +kernel), List.mem_of_getElem? (i := 1287) (by decide +kernel), List.mem_of_getElem? (i := 1288) (by decide +kernel)⟩
theorem lw_p119 : lw_okq (⟨"BottlingBookModel", "sumHeld", "()I"⟩, 19) := ⟨⟨by decide +kernel, by decide +kernel⟩, List.mem_of_getElem? (i := 938) (by decide +kernel), List.mem_of_getElem? (i := 1291) (by decide +kernel), List.mem_of_getElem? (i := 1292) (by decide +kernel)⟩
def lw_privs_8 : List (MethodName × Nat) := [(⟨"BottlingBookModel", "isAhead", "(II)Z"⟩, 19), (⟨"BottlingBookModel", "portionOf", "(I)I"⟩, 19), (⟨"BottlingBookModel", "recalling", "(I)I"⟩, 19), (⟨"BottlingBookModel", "findWays", "(I)V"⟩, 19), (⟨"BottlingBookModel", "sumOfHarvests", "()I"⟩, 19), (⟨"BottlingBookModel", "sumOfLots", "()I"⟩, 19), (⟨"BottlingBookModel", "sumOfBottles", "(I)I"⟩, 19), (⟨"BottlingBookModel", "sumHeld", "()I"⟩, 19)]
theorem lw_r8 : ∀ q ∈ lw_privs_8, lw_okq q := List.forall_mem_cons.mpr ⟨lw_p112, List.forall_mem_cons.mpr ⟨lw_p113, List.forall_mem_cons.mpr ⟨lw_p114, List.forall_mem_cons.mpr ⟨lw_p115, List.forall_mem_cons.mpr ⟨lw_p116, List.forall_mem_cons.mpr ⟨lw_p117, List.forall_mem_cons.mpr ⟨lw_p118, List.forall_mem_cons.mpr ⟨lw_p119, fun _ h => absurd h List.not_mem_nil⟩⟩⟩⟩⟩⟩⟩⟩
def lw_privs : List (MethodName × Nat) := lw_privs_1 ++ (lw_privs_2 ++ (lw_privs_3 ++ (lw_privs_4 ++ (lw_privs_5 ++ (lw_privs_6 ++ (lw_privs_7 ++ (lw_privs_8)))))))
def lw_tbl : List Cond := k2_sels lw_privs ++ tables_1
theorem lw_privs_ok : ∀ q ∈ lw_privs, lw_okq q := by
  show ∀ q ∈ lw_privs_1 ++ (lw_privs_2 ++ (lw_privs_3 ++ (lw_privs_4 ++ (lw_privs_5 ++ (lw_privs_6 ++ (lw_privs_7 ++ (lw_privs_8))))))), lw_okq q
  exact List.forall_mem_append.mpr ⟨lw_r1, List.forall_mem_append.mpr ⟨lw_r2, List.forall_mem_append.mpr ⟨lw_r3, List.forall_mem_append.mpr ⟨lw_r4, List.forall_mem_append.mpr ⟨lw_r5, List.forall_mem_append.mpr ⟨lw_r6, List.forall_mem_append.mpr ⟨lw_r7, lw_r8⟩⟩⟩⟩⟩⟩⟩
/-- the streams that the claim lets the run draw from -/
abbrev lw_cs : List Choice := [Jvm.Choice.named "NaN.bits"]
theorem lw_bits : nanBits ∈ lw_cs := by first | decide | exact List.mem_cons_self | simp [lw_cs, nanBits]
end
section
/-! ===== BEGIN words of one list among another's, by their places ===== -/
theorem goodIn_r {big : List Cond} (ws : List Cond) (ps : List Nat) (hp : ws = ps.filterMap (fun i => big[i]?)) (h : ws.all goodWord = true) : GoodIn big ws := by
  intro w hw
  have h1 := List.all_eq_true.mp h w hw
  rw [hp] at hw
  obtain ⟨i, -, hi⟩ := List.mem_filterMap.mp hw
  have hm : w ∈ big := by first | exact List.mem_of_getElem? hi | exact List.getElem?_mem hi
  exact ⟨hm, good_of_word h1⟩
theorem goodIn_app {big a b : List Cond} (ha : GoodIn big a) (hb : GoodIn big b) : GoodIn big (a ++ b) := fun w h => (List.mem_append.mp h).elim (ha w) (hb w)
theorem goodIn_ca {big a b : List Cond} {c : Cond} (ha : GoodIn big (c :: a)) (hb : GoodIn big b) : GoodIn big (c :: (a ++ b)) := fun w h => (List.mem_cons.mp h).elim (fun e => ha w (List.mem_cons.mpr (Or.inl e))) (fun h => (List.mem_append.mp h).elim (fun h => ha w (List.mem_cons.mpr (Or.inr h))) (hb w))
theorem goodIn_sub {big ws : List Cond} (hm : ∀ w ∈ ws, w ∈ big) (h : ws.all goodWord = true) : GoodIn big ws := fun w hw => ⟨hm w hw, good_of_word (List.all_eq_true.mp h w hw)⟩
/-! ===== END ===== -/

/-! ===== BEGIN exceptions that leave a method, and their catching by the caller (launches without stack traces) ===== -/
section VXA
/-! The laws vx_back, vx_callV, vx_callS, vx_callSW, vx_throw0, vx_throwS follow proofs of the library, with one case more: JvmDerived/Free/Laws.lean (Back.of_free), Shelf42/LK1.lean (callV, callS), Shelf/KitTraced.lean (throwNew0V, throwNewS). -/
/-- where a method has thrown q: the class by its name, the cell, what was written, the world -/
def vx_T (XC : String → State → State → Prop) (st : State) (q : Addr) (t : State) (mc ms : Nat) (free : Addr → Prop) : Prop :=
  ∃ (E : String) (ce : Cell) (L : List Loc), XC E st t ∧ t.heap[q]? = some ce ∧ ce.vm = .none ∧ st.vm.findClass E = some ce.cls ∧ st.WarmedH t.vm ∧ st.sameButNew ({ t with vm := st.vm } : State) L mc ms ∧ ∀ z ∈ L, free z.base
def vx_Q (Qc : Array Value → State → Outcome → State → Prop) (XC : String → State → State → Prop) (mc ms : Nat) (free : Addr → Prop) : Array Value → State → Outcome → State → Prop := fun a st o t =>
  (Qc a st o t ∧ ∃ L, FrameEnd st o t L mc ms ∧ ∀ q ∈ L, free q.base) ∨ ∃ q, o = .threw q ∧ vx_T XC st q t mc ms free
/-- a callee that returns or throws -/
def vx_Met (l : Launch) (y : MethodName) (ws : List Cond) (rm : Room) (Pc : Array Value → State → Prop) (Qc : Array Value → State → Outcome → State → Prop) (XC : String → State → State → Prop) (mc ms : Nat) (free : Addr → Prop) : Prop :=
  MetFree l y (headSpec ws rm) Pc (fun _ _ _ _ _ => True) (vx_Q Qc XC mc ms free)
def vx_Post (XC : String → State → State → Prop) (mc ms : Nat) (free : Addr → Prop) : Pt → Array Value → Addr → Pt → Prop := fun A a q B =>
  ∃ (g : JFrame) (mk : MethodId) (t : State) (L : List Loc) (E : String) (ce : Cell), B.U.heap = t.heap ∧ B.U.vm = t.vm ∧ XC E (A.U.calling g mk a) t ∧ t.heap[q]? = some ce ∧ ce.vm = .none ∧ A.U.vm.findClass E = some ce.cls ∧ B.locs = A.locs ++ L ∧ (∀ z ∈ L, free z.base) ∧ B.cells = A.cells + mc ∧ B.slots = A.slots + ms
def vx_Back (l : Launch) (R : Room) (p : Program) (e : Env) (below : List Frame) (s : State) (sargs : Array Value) (y : MethodName) (len W9 : Nat)
    (Pre : Pt → Array Value → Prop) (Post : Pt → Array Value → Option Value → Pt → Prop) (PostX : Pt → Array Value → Addr → Pt → Prop) : Prop :=
  ∀ (m : MethodId) (meth : Method) (c : Code) (A : Pt) (g : JFrame) (ig : Instr) (mk : MethodId) (a : Array Value),
    Stand p l e R s m sargs below meth c A.U A.locs A.cells A.slots → g.method = m → g.locals.size = c.maxLocals → decode c.code g.pc = .ok (ig, len) →
    2 * g.monitorRoom + (g.stack.map fun v => v.category).sum ≤ W9 → A.U.methodNamed? y = some mk → Pre A a →
    (∃ (v : Option Value) (B : Pt), Stand p l e R s m sargs below meth c B.U B.locs B.cells B.slots ∧ Post A a v B ∧
      Steps p.tables e below (doInvoke e (A.U.setTop g) [] mk a).1 (B.U.setTop { g with pc := g.pc + len, stack := v.toList ++ g.stack })) ∨
    (∃ (q : Addr) (B : Pt), Stand p l e R s m sargs below meth c B.U B.locs B.cells B.slots ∧ PostX A a q B ∧
      Steps p.tables e below (doInvoke e (A.U.setTop g) [] mk a).1 ((B.U.setTop g).pushFrame (.throwing q)))
section Payer
variable {l : Launch} {R : Room} {p : Program} {e : Env} {below : List Frame} {s : State} {sargs : Array Value} {y : MethodName} {len W9 : Nat}
theorem vx_back {ws : List Cond} {rm : Room} {Pc : Array Value → State → Prop} {Qc : Array Value → State → Outcome → State → Prop} {XC : String → State → State → Prop} {mc ms : Nat} {free : Addr → Prop} {bytes : ByteArray} {maxL : Nat} {ret : Option FieldType}
    (hM : vx_Met l y ws rm Pc Qc XC mc ms free) (hblind : FrameBlind Pc) (hrc : rm.cells = mc) (hrs : rm.slots = ms)
    (hframes : rm.frames + 1 ≤ R.frames) (hlocals : W9 + (maxL + 11) + rm.locals ≤ R.locals)
    (hws : ∀ w ∈ ws, ∀ a' U, s.WarmedH U.vm → w.before a' U = true) (hcode : Cond.code y bytes maxL ret ∈ ws) (hinit : ∀ a' U, s.WarmedH U.vm → (Cond.initialized y.cls).before a' U = true) :
    vx_Back l R p e below s sargs y len W9 (PreOf R mc ms Pc) (PostOf Qc mc ms free) (vx_Post XC mc ms free) := by
  intro m meth c A g ig mk a X hg hsize hdg hW hn hp
  have h1 : (headSpec ws rm).pre.before a A.U = true := atoms_intro fun w hw => hws w hw _ _ X.warmed
  have h2 : (Cond.code y bytes maxL ret).before a A.U = true := hws _ hcode _ _ X.warmed
  have h3 : (Cond.initialized y.cls).before a A.U = true := hinit _ _ X.warmed
  have h4 : A.cells + (headSpec ws rm).room.cells ≤ R.cells := by rw [show (headSpec ws rm).room.cells = mc from hrc]; exact hp.1
  have h5 : A.slots + (headSpec ws rm).room.slots ≤ R.slots := by rw [show (headSpec ws rm).room.slots = ms from hrs]; exact hp.2.1
  have hPc : Pc a (A.U.calling g mk a) := hblind _ _ _ _ hp.2.2
  obtain ⟨U, Ls, c0, s0⟩ := A
  dsimp only [Pt.U, Pt.locs, Pt.cells, Pt.slots] at h1 h2 h3 h4 h5 X hn hPc ⊢
  obtain ⟨methY, cY, hmY, hcY, -, hlY, -, -, -, -⟩ := Cond.code_spec hn h2
  obtain ⟨kY, hkY, -⟩ := className_of_methodNamed hn
  have hinitY : kY.init = .initialized := Cond.initialized_spec (findClass_of_methodNamed hn) hkY h3
  have h : At U g.method c below := by rw [hg]; exact X.here
  have hlocals9 : W9 + (maxL + 11) + (headSpec ws rm).room.locals ≤ R.locals := hlocals
  have happ : (headSpec ws rm).appliesLoose y e.platform (U.calling g mk a) = true :=
    Spec.appliesLoose_calling (g := g) h hdg hn hkY hinitY
      (X.room_calling (g := g) (R' := (headSpec ws rm).room) hsize hmY hcY hframes (by rw [hlY]; omega) h4 h5) h1
  obtain ⟨mid, hmid⟩ := h.above
  have hfr : (U.setTop g).frames = (.java g :: mid) ++ below := by rw [State.frames_setTop' g h.top, hmid]; rfl
  obtain ⟨o, s₂, hsteps, -, hend, hq⟩ := Steps.callFree hM p X.admits X.cas X.clock (acts := []) hfr happ hPc trivial
  have hq' : vx_Q Qc XC mc ms free a (U.calling g mk a) o s₂ := hq
  rw [State.frames_setTop' g h.top] at hend
  obtain ⟨g₀, hg0⟩ := Option.isSome_iff_exists.mp h.top
  obtain ⟨r, hr⟩ := State.topJava?_eq_some.mp hg0
  have hr' : (({ U with heap := s₂.heap, slotsUsed := s₂.slotsUsed } : State).setVm s₂.vm).frames = .java g₀ :: r := hr
  rcases hq' with ⟨hqc, L, hfe, hL⟩ | ⟨q, rfl, E, ce, L, hx, hce, hcv, hcl, hW₂, hsm, hL⟩
  · obtain ⟨⟨v, rfl⟩, hW₂, e2, q2, q3, q4, q5, q6⟩ := id hfe
    have e3 : s₂ = ({ (U.calling g mk a).setFrames s₂.frames with heap := s₂.heap, slotsUsed := s₂.slotsUsed } : State).setVm s₂.vm := by
      have : s₂ = ({ s₂ with vm := (U.calling g mk a).vm } : State).setVm s₂.vm := rfl
      rw [e2] at this
      exact this
    obtain ⟨c₂, i₂, len₂, hc₂, hd₂, hf₂⟩ := hend
    have hW' : U.WarmedH s₂.vm := hW₂
    have hcc : c₂ = c := by
      have h1 : s₂.code? g.method = U.code? g.method := by
        rw [State.code?_eq, State.code?_eq, hW'.alike.method?]
      exact Option.some.inj (hc₂.symm.trans (h1.trans h.code))
    subst hcc
    have hlen : len₂ = len := by rw [hdg] at hd₂; cases hd₂; rfl
    subst hlen
    have hs₂ : s₂ = (({ U with heap := s₂.heap, slotsUsed := s₂.slotsUsed } : State).setVm s₂.vm).setTop { g with pc := g.pc + len₂, stack := v.toList ++ g.stack } := by
      refine e3.trans ?_
      rw [hf₂, State.calling_eq h.top, State.setFrames_setFrames, State.setTop_of_frames _ hr', hr]
      rfl
    have hsame : U.sameButNew ({ U with heap := s₂.heap, slotsUsed := s₂.slotsUsed } : State) L mc ms := by
      refine ⟨?_, q2, q3, q4, q5, q6⟩
      obtain ⟨t, ht, -⟩ := State.frames_cons hr
      show ({ U with heap := s₂.heap, slotsUsed := s₂.slotsUsed } : State) = { U.setFrames U.frames with heap := s₂.heap, slotsUsed := s₂.slotsUsed }
      rw [State.setFrames_self ht]
    subst hg
    refine Or.inl ⟨v, ⟨(({ U with heap := s₂.heap, slotsUsed := s₂.slotsUsed } : State).setVm s₂.vm), Ls ++ L, c0 + mc, s0 + ms⟩,
      ⟨X.admits, X.cas, X.clock, X.frames, X.room, X.hears, X.method, X.code, (X.here.setHeapUsed s₂.heap s₂.slotsUsed).setVm hW'.alike, X.tail, State.WarmedH.trans X.warmed hW', X.limits, X.bytes, X.same.trans (hsame.setVm s.vm)⟩,
      ⟨g, mk, s₂, L, rfl, rfl, hqc, rfl, hL, rfl, rfl⟩, ?_⟩
    show Steps p.tables e below _ ((({ U with heap := s₂.heap, slotsUsed := s₂.slotsUsed } : State).setVm s₂.vm).setTop { g with pc := g.pc + len₂, stack := v.toList ++ g.stack })
    rw [← hs₂]
    exact hsteps
  · obtain ⟨e2, q2, q3, q4, q5, q6⟩ := id hsm
    have e3 : s₂ = ({ (U.calling g mk a).setFrames s₂.frames with heap := s₂.heap, slotsUsed := s₂.slotsUsed } : State).setVm s₂.vm := by
      have : s₂ = ({ s₂ with vm := (U.calling g mk a).vm } : State).setVm s₂.vm := rfl
      rw [e2] at this
      exact this
    have hf₂ : s₂.frames = .throwing q :: .java g :: U.frames.tail := hend
    have hW' : U.WarmedH s₂.vm := hW₂
    have hs₂ : s₂ = ((({ U with heap := s₂.heap, slotsUsed := s₂.slotsUsed } : State).setVm s₂.vm).setTop g).pushFrame (.throwing q) := by
      refine e3.trans ?_
      rw [hf₂, State.calling_eq h.top, State.setFrames_setFrames, State.pushFrame, State.frames_setTop _ hr', State.setTop_of_frames _ hr', State.setFrames_setFrames, hr]
      rfl
    have hsame : U.sameButNew ({ U with heap := s₂.heap, slotsUsed := s₂.slotsUsed } : State) L mc ms := by
      refine ⟨?_, q2, q3, q4, q5, q6⟩
      obtain ⟨t, ht, -⟩ := State.frames_cons hr
      show ({ U with heap := s₂.heap, slotsUsed := s₂.slotsUsed } : State) = { U.setFrames U.frames with heap := s₂.heap, slotsUsed := s₂.slotsUsed }
      rw [State.setFrames_self ht]
    subst hg
    refine Or.inr ⟨q, ⟨(({ U with heap := s₂.heap, slotsUsed := s₂.slotsUsed } : State).setVm s₂.vm), Ls ++ L, c0 + mc, s0 + ms⟩,
      ⟨X.admits, X.cas, X.clock, X.frames, X.room, X.hears, X.method, X.code, (X.here.setHeapUsed s₂.heap s₂.slotsUsed).setVm hW'.alike, X.tail, State.WarmedH.trans X.warmed hW', X.limits, X.bytes, X.same.trans (hsame.setVm s.vm)⟩,
      ⟨g, mk, s₂, L, E, ce, rfl, rfl, hx, hce, hcv, hcl, rfl, hL, rfl, rfl⟩, ?_⟩
    show Steps p.tables e below _ (((({ U with heap := s₂.heap, slotsUsed := s₂.slotsUsed } : State).setVm s₂.vm).setTop g).pushFrame (.throwing q))
    rw [← hs₂]
    exact hsteps
end Payer
section Calls
variable {p : Program} {l : Launch} {e : Env} {R : Room} {s : State} {m : MethodId} {args : Array Value} {below : List Frame} {meth : Method} {c : Code} {T : State} {locs : List Loc} {cells slots : Nat}
theorem vx_callV (X : Stand p l e R s m args below meth c T locs cells slots) (hexec : p.tables.exec = Jvm.exec) {own C : String} {index : Nat} {y : MethodName} {bytes : ByteArray} {maxL : Nat} {ret : Option FieldType}
    (hown : s.vm.findClass own = some m.cls) (hlink : (Cond.methodLink own index y).before args s = true) (hinst : (Cond.instanceMethod y).before args s = true) (hsel : (Cond.selects C y y).before args s = true)
    (hcode : (Cond.code y bytes maxL ret).before args s = true) (hy : y.cls ≠ "java/lang/invoke/MethodHandle" ∧ y.cls ≠ "java/lang/invoke/VarHandle")
    {W9 : Nat} {Pre : Pt → Array Value → Prop} {Post : Pt → Array Value → Option Value → Pt → Prop} {PostX : Pt → Array Value → Addr → Pt → Prop} (hK : vx_Back l R p e below s args y 3 W9 Pre Post PostX)
    {b : Addr} {cellB : Cell} (hcell : T.heap[b]? = some cellB) (hobj : cellB.vm.isStatics = false) (hcls : s.vm.findClass C = some cellB.cls)
    {g : JFrame} (hg : g.method = m) (hsize : g.locals.size = c.maxLocals) {argsL rest : List Value} (hlen : ∀ sig, parseMethodDescriptor y.desc = some sig → argsL.length = sig.parameters.length)
    (hstack : g.stack = argsL.reverse ++ .ref b :: rest) (hW : 2 * g.monitorRoom + (rest.map fun v => v.category).sum ≤ W9) (hdg : decode c.code g.pc = .ok (.invokevirtual index, 3))
    (hpre : ∀ vm₁, s.WarmedH vm₁ → Pre ⟨T.setVm vm₁, locs, cells, slots⟩ (Value.ref b :: argsL).toArray) :
    (∃ (v : Option Value) (vm₁ : Vm) (B : Pt), s.WarmedH vm₁ ∧ Stand p l e R s m args below meth c B.U B.locs B.cells B.slots ∧ Post ⟨T.setVm vm₁, locs, cells, slots⟩ (Value.ref b :: argsL).toArray v B ∧
      ∀ target, Steps p.tables e below (B.U.setTop { g with pc := g.pc + 3, stack := v.toList ++ rest }) target → Steps p.tables e below (T.setTop g) target) ∨
    (∃ (q : Addr) (vm₁ : Vm) (B : Pt), s.WarmedH vm₁ ∧ Stand p l e R s m args below meth c B.U B.locs B.cells B.slots ∧ PostX ⟨T.setVm vm₁, locs, cells, slots⟩ (Value.ref b :: argsL).toArray q B ∧
      Steps p.tables e below (T.setTop g) ((B.U.setTop { g with stack := rest }).pushFrame (.throwing q))) := by
  obtain ⟨mk, methM, hnamed, hmethM, hstM, habM⟩ := Cond.instanceMethod_spec hinst
  obtain ⟨methM', cM, hmethM', -, -, -, -, -, -, hsigM⟩ := Cond.code_spec hnamed hcode
  cases hmethM.symm.trans hmethM'
  obtain ⟨c2, r2, m2, q1, q2, q3, q4, kP, hkP, hkPi⟩ := Cond.selects_spec hsel
  cases hcls.symm.trans q1
  cases (State.methodFound?_of_named hnamed hy).symm.trans q2
  cases hnamed.symm.trans q3
  have hselP : selectMethod e.platform s.vm cellB.cls mk = .method mk := by rw [Launch.admits_selectMethod X.admits]; exact q4
  obtain ⟨vm₁, X₁, hstep₁⟩ := X.invokevirtual hexec hown hlink hnamed hmethM hstM hkP hkPi hy (a := b) (cell := cellB) hcell
    (fun z h => by rw [h] at hobj; cases hobj) hselP hmethM habM hkP hkPi (g := g) hg (argsL := argsL) (rest := rest) (hlen _ hsigM) hstack hdg
  rcases hK m meth c ⟨T.setVm vm₁, locs, cells, slots⟩ { g with stack := rest } (.invokevirtual index) mk (Value.ref b :: argsL).toArray X₁ hg hsize hdg hW (X₁.named hnamed) (hpre vm₁ X₁.warmed) with ⟨v, B, X', hpost, hsteps⟩ | ⟨q, B, X', hpost, hsteps⟩
  · exact Or.inl ⟨v, vm₁, B, X₁.warmed, X', hpost, fun target h => hstep₁ _ fun acts => by rw [doInvoke_state]; exact hsteps.trans h⟩
  · exact Or.inr ⟨q, vm₁, B, X₁.warmed, X', hpost, hstep₁ _ fun acts => by rw [doInvoke_state]; exact hsteps⟩
theorem vx_callS (X : Stand p l e R s m args below meth c T locs cells slots) (hexec : p.tables.exec = Jvm.exec) {own : String} {index : Nat} {y : MethodName} {bytes : ByteArray} {maxL : Nat} {ret : Option FieldType}
    (hown : s.vm.findClass own = some m.cls) (hlink : (Cond.methodLink own index y).before args s = true) (hstat : (Cond.static y).before args s = true) (hinit : (Cond.initialized y.cls).before args s = true)
    (hcode : (Cond.code y bytes maxL ret).before args s = true) (hy : y.cls ≠ "java/lang/invoke/MethodHandle" ∧ y.cls ≠ "java/lang/invoke/VarHandle")
    {W9 : Nat} {Pre : Pt → Array Value → Prop} {Post : Pt → Array Value → Option Value → Pt → Prop} {PostX : Pt → Array Value → Addr → Pt → Prop} (hK : vx_Back l R p e below s args y 3 W9 Pre Post PostX)
    {g : JFrame} (hg : g.method = m) (hsize : g.locals.size = c.maxLocals) {argsL rest : List Value} (hlen : ∀ sig, parseMethodDescriptor y.desc = some sig → argsL.length = sig.parameters.length)
    (hstack : g.stack = argsL.reverse ++ rest) (hW : 2 * g.monitorRoom + (rest.map fun v => v.category).sum ≤ W9) (hdg : decode c.code g.pc = .ok (.invokestatic index, 3))
    (hpre : ∀ vm₁, s.WarmedH vm₁ → Pre ⟨T.setVm vm₁, locs, cells, slots⟩ argsL.toArray) :
    (∃ (v : Option Value) (vm₁ : Vm) (B : Pt), s.WarmedH vm₁ ∧ Stand p l e R s m args below meth c B.U B.locs B.cells B.slots ∧ Post ⟨T.setVm vm₁, locs, cells, slots⟩ argsL.toArray v B ∧
      ∀ target, Steps p.tables e below (B.U.setTop { g with pc := g.pc + 3, stack := v.toList ++ rest }) target → Steps p.tables e below (T.setTop g) target) ∨
    (∃ (q : Addr) (vm₁ : Vm) (B : Pt), s.WarmedH vm₁ ∧ Stand p l e R s m args below meth c B.U B.locs B.cells B.slots ∧ PostX ⟨T.setVm vm₁, locs, cells, slots⟩ argsL.toArray q B ∧
      Steps p.tables e below (T.setTop g) ((B.U.setTop { g with stack := rest }).pushFrame (.throwing q))) := by
  obtain ⟨mk, hnamed⟩ := Cond.code_named hcode
  obtain ⟨methM, cM, hmethM, -, -, -, -, -, -, hsigM⟩ := Cond.code_spec hnamed hcode
  have hstatic : methM.isStatic = true := Cond.static_spec hnamed hmethM hstat
  obtain ⟨kP, hkP, -⟩ := className_of_methodNamed hnamed
  have hinitP : kP.init = .initialized := Cond.initialized_spec (findClass_of_methodNamed hnamed) hkP hinit
  obtain ⟨vm₁, X₁, hstep₁⟩ := X.invokestatic hexec hown hlink hnamed hmethM hstatic hkP hinitP hy (g := g) hg (argsL := argsL) (rest := rest) (hlen _ hsigM) hstack hdg
  rcases hK m meth c ⟨T.setVm vm₁, locs, cells, slots⟩ { g with stack := rest } (.invokestatic index) mk argsL.toArray X₁ hg hsize hdg hW (X₁.named hnamed) (hpre vm₁ X₁.warmed) with ⟨v, B, X', hpost, hsteps⟩ | ⟨q, B, X', hpost, hsteps⟩
  · exact Or.inl ⟨v, vm₁, B, X₁.warmed, X', hpost, fun target h => hstep₁ _ fun acts => by rw [doInvoke_state]; exact hsteps.trans h⟩
  · exact Or.inr ⟨q, vm₁, B, X₁.warmed, X', hpost, hstep₁ _ fun acts => by rw [doInvoke_state]; exact hsteps⟩
end Calls
theorem vx_cls {s : State} {T : State} {vm₁ : Vm} {E : String} {k : ClassId} (hW : s.WarmedH vm₁) (h : (T.setVm vm₁).vm.findClass E = some k) : s.vm.findClass E = some k := by
  have h1 : vm₁.findClass E = some k := h
  rw [hW.alike.findClass] at h1
  exact h1
/-- the method's frame g, with q thrown over it -/
def vx_W (p : Program) (l : Launch) (e : Env) (R : Room) (s : State) (m : MethodId) (args : Array Value) (below : List Frame) (meth : Method) (c : Code) (H : Heap) (locs : List Loc) (cells slots : Nat) (Q : State → Prop) (g : JFrame) (q : Addr) : Prop :=
  ∀ T : State, T.heap = H → Stand p l e R s m args below meth c T locs cells slots → ∃ t, Steps p.tables e below ((T.setTop g).pushFrame (.throwing q)) t ∧ Q t
def vx_Run (p : Program) (l : Launch) (e : Env) (R : Room) (s : State) (m : MethodId) (args : Array Value) (below : List Frame) (meth : Method) (c : Code) (H : Heap) (locs : List Loc) (cells slots mc ms : Nat) (g : JFrame) (rest : List Value) (Qa : State → Outcome → State → Prop) (XC : String → State → State → Prop) (free : Addr → Prop) : Prop :=
  ∀ T : State, T.heap = H → Stand p l e R s m args below meth c T locs cells slots →
    (∃ (v : Option Value) (st₀ t T' : State) (L : List Loc), st₀.heap = H ∧ Stand p l e R s m args below meth c T' (locs ++ L) (cells + mc) (slots + ms) ∧ (∀ q ∈ L, free q.base) ∧ T'.heap = t.heap ∧ T'.vm = t.vm ∧ Qa st₀ (.returned v) t ∧
      Goes p e below T g T' { g with pc := g.pc + 3, stack := v.toList ++ rest }) ∨
    (∃ (q : Addr) (st₀ t T' : State) (L : List Loc) (E : String) (ce : Cell), st₀.heap = H ∧ Stand p l e R s m args below meth c T' (locs ++ L) (cells + mc) (slots + ms) ∧ (∀ z ∈ L, free z.base) ∧ T'.heap = t.heap ∧ T'.vm = t.vm ∧ XC E st₀ t ∧ t.heap[q]? = some ce ∧ ce.vm = .none ∧ s.vm.findClass E = some ce.cls ∧
      Steps p.tables e below (T.setTop g) ((T'.setTop { g with stack := rest }).pushFrame (.throwing q)))
def vx_X {S : Type} (px : S → Prop) (B : String → S → State → Prop) (A : Nat → Prop) : String → State → State → Prop := fun E st t => ∃ u : S, px u ∧ B E u t ∧ va_F A st t
section Runs
variable {p : Program} {l : Launch} {e : Env} {R : Room} {s : State} {m : MethodId} {args : Array Value} {below : List Frame} {meth : Method} {c : Code} {H : Heap} {locs : List Loc} {cells slots : Nat}
variable {y : MethodName} {bytes cc : ByteArray} {maxL nL mc ms n index : Nat} {ret : Option FieldType} {ws : List Cond} {rm : Room} {Pc : Array Value → State → Prop} {Qc : Array Value → State → Outcome → State → Prop} {XC : String → State → State → Prop} {free : Addr → Prop} {Ts : List Cond} {own C : String} {b : Addr} {As rest : List Value} {g : JFrame}
theorem vx_callBack (cb : CallB R s args own index y bytes maxL ret ws rm mc ms n) (hM : vx_Met l y ws rm Pc Qc XC mc ms free) (hbl : FrameBlind Pc) : vx_Back l R p e below s args y 3 8 (PreOf R mc ms Pc) (PostOf Qc mc ms free) (vx_Post XC mc ms free) := by
  obtain ⟨hrc, hrs, hfr, hlo, hws, hcw, -, hini, -⟩ := cb
  exact vx_back (bytes := bytes) (maxL := maxL) (ret := ret) hM hbl hrc hrs hfr hlo hws hcw (fun a' U hW => word_at hW (Or.inl (by first | rfl | simp [Cond.onTables, Cond.keeps, Cond.steady])) hini)
theorem vx_runV (S : CallFix p m c cc nL s args Ts own) (hM : vx_Met l y ws rm Pc Qc XC mc ms free) (cw : CallW R s args own C index y bytes maxL ret ws rm mc ms n) (hp : PreV s H C b Pc As)
    (hg : g.method = m) (hn : As.length = n) (hsize : g.locals.size = nL) (hstack : g.stack = As.reverse ++ .ref b :: rest) (hW : 2 * g.monitorRoom + (rest.map fun v => v.category).sum ≤ 8) (hdg : decode cc g.pc = .ok (.invokevirtual index, 3)) (hf : cells + mc ≤ R.cells ∧ slots + ms ≤ R.slots) :
    vx_Run p l e R s m args below meth c H locs cells slots mc ms g rest (Qc (Value.ref b :: As).toArray) XC free := by
  have hK : vx_Back l R p e below s args y 3 8 (PreOf R mc ms Pc) (PostOf Qc mc ms free) (vx_Post XC mc ms free) := vx_callBack cw.1 hM hp.1
  obtain ⟨⟨-, -, -, -, -, -, hcode, -, hy, hlen, hl⟩, hin, hse⟩ := cw
  obtain ⟨hx, hb, hml, ho, -⟩ := S
  obtain ⟨-, ⟨cellB, hcB, hoB, hclB⟩, hPc⟩ := hp
  intro T hT X
  rcases vx_callV X hx (C := C) (bytes := bytes) (maxL := maxL) (ret := ret) ho hl hin hse hcode hy hK (by rw [hT]; exact hcB) hoB hclB hg (hsize.trans hml.symm) (argsL := As) (rest := rest) (fun sig h => hn.trans (hlen sig h)) hstack hW (by rw [hb]; exact hdg)
    (fun vm₁ hW₁ => ⟨hf.1, hf.2, hPc (T.setVm vm₁) hT hW₁⟩) with ⟨v, vm₁, ⟨U', l2, c2, s2⟩, hW₁, X', ⟨g', mk, t, L, e1, e2, hq, h1, hL, h2, h3⟩, st⟩ | ⟨q, vm₁, ⟨U', l2, c2, s2⟩, hW₁, X', ⟨g', mk, t, L, E, ce, e1, e2, hq, hce, hcv, hcl, h1, hL, h2, h3⟩, st⟩
  · dsimp only [Pt.U, Pt.locs, Pt.cells, Pt.slots] at X' e1 e2 h1 h2 h3 st
    subst h1; subst h2; subst h3
    exact Or.inl ⟨v, (T.setVm vm₁).calling g' mk (Value.ref b :: As).toArray, t, U', L, hT, X', hL, e1, e2, hq, st⟩
  · dsimp only [Pt.U, Pt.locs, Pt.cells, Pt.slots] at X' e1 e2 h1 h2 h3 st hcl
    subst h1; subst h2; subst h3
    exact Or.inr ⟨q, (T.setVm vm₁).calling g' mk (Value.ref b :: As).toArray, t, U', L, E, ce, hT, X', hL, e1, e2, hq, hce, hcv, vx_cls hW₁ hcl, st⟩
theorem vx_runS (S : CallFix p m c cc nL s args Ts own) (hM : vx_Met l y ws rm Pc Qc XC mc ms free) (cw : CallB R s args own index y bytes maxL ret ws rm mc ms n ∧ (Cond.static y).before args s = true) (hp : PreS s H Pc As)
    (hg : g.method = m) (hn : As.length = n) (hsize : g.locals.size = nL) (hstack : g.stack = As.reverse ++ rest) (hW : 2 * g.monitorRoom + (rest.map fun v => v.category).sum ≤ 8) (hdg : decode cc g.pc = .ok (.invokestatic index, 3)) (hf : cells + mc ≤ R.cells ∧ slots + ms ≤ R.slots) :
    vx_Run p l e R s m args below meth c H locs cells slots mc ms g rest (Qc As.toArray) XC free := by
  have hK : vx_Back l R p e below s args y 3 8 (PreOf R mc ms Pc) (PostOf Qc mc ms free) (vx_Post XC mc ms free) := vx_callBack cw.1 hM hp.1
  obtain ⟨⟨-, -, -, -, -, -, hcode, hini, hy, hlen, hl⟩, hstt⟩ := cw
  obtain ⟨hx, hb, hml, ho, -⟩ := S
  intro T hT X
  rcases vx_callS X hx (bytes := bytes) (maxL := maxL) (ret := ret) ho hl hstt hini hcode hy hK hg (hsize.trans hml.symm) (argsL := As) (rest := rest) (fun sig h => hn.trans (hlen sig h)) hstack hW (by rw [hb]; exact hdg)
    (fun vm₁ hW₁ => ⟨hf.1, hf.2, hp.2 (T.setVm vm₁) hT hW₁⟩) with ⟨v, vm₁, ⟨U', l2, c2, s2⟩, hW₁, X', ⟨g', mk, t, L, e1, e2, hq, h1, hL, h2, h3⟩, st⟩ | ⟨q, vm₁, ⟨U', l2, c2, s2⟩, hW₁, X', ⟨g', mk, t, L, E, ce, e1, e2, hq, hce, hcv, hcl, h1, hL, h2, h3⟩, st⟩
  · dsimp only [Pt.U, Pt.locs, Pt.cells, Pt.slots] at X' e1 e2 h1 h2 h3 st
    subst h1; subst h2; subst h3
    exact Or.inl ⟨v, (T.setVm vm₁).calling g' mk As.toArray, t, U', L, hT, X', hL, e1, e2, hq, st⟩
  · dsimp only [Pt.U, Pt.locs, Pt.cells, Pt.slots] at X' e1 e2 h1 h2 h3 st hcl
    subst h1; subst h2; subst h3
    exact Or.inr ⟨q, (T.setVm vm₁).calling g' mk As.toArray, t, U', L, E, ce, hT, X', hL, e1, e2, hq, hce, hcv, vx_cls hW₁ hcl, st⟩
end Runs
section Rows
variable {p : Program} {l : Launch} {e : Env} {R : Room} {s : State} {m : MethodId} {args : Array Value} {below : List Frame} {meth : Method} {c : Code} {H : Heap} {locs : List Loc} {cells slots : Nat} {Q : State → Prop}
variable {mc ms : Nat} {free : Addr → Prop} {A0 A1 : Nat → Prop} {H0 : Heap} {a : Array Value} {pc : Nat} {ls : Array Slot} {st0 rest : List Value}
theorem vx_keep {st₀ t T' : State} {L : List Loc} (h0 : st₀.heap = H) (e1 : T'.heap = t.heap) (hS : va_S A0 H0 H locs) (hA : ∀ q, q < H.size → A1 q → A0 q) (hf : ∀ q, free q → A0 q) (hL : ∀ q ∈ L, free q.base) (hF : va_F A1 st₀ t) :
    H.size ≤ T'.heap.size ∧ (∀ q : Nat, q < H.size → ¬ A1 q → T'.heap[q]? = H[q]?) ∧ va_S A0 H0 T'.heap (locs ++ L) := by
  obtain ⟨hz, hk⟩ := hF
  rw [h0] at hz hk
  exact ⟨by rw [e1]; exact hz, fun q h1 h2 => by rw [e1]; exact hk q h1 h2,
    ⟨Nat.le_trans hS.1 (by rw [e1]; exact hz), fun q h1 h2 => by rw [e1, hk q (Nat.lt_of_lt_of_le h1 hS.1) (fun z => h2 (hA q (Nat.lt_of_lt_of_le h1 hS.1) z))]; exact hS.2.1 q h1 h2, fun q hq => by
      rcases List.mem_append.mp hq with h | h
      · exact hS.2.2 q h
      · exact hf _ (hL q h)⟩⟩
theorem vx_calli {S SX : Type} {post : Int32 → S → Prop} {px : SX → Prop} {B : S → State → Prop} {BX : String → SX → State → Prop} {AX : Nat → Prop} (hr : vx_Run p l e R s m args below meth c H locs cells slots mc ms (F0 m pc ls st0) rest (va_Qi post B A1 a) (vx_X px BX AX) free) (hS : va_S A0 H0 H locs) (hA : ∀ q, q < H.size → A1 q → A0 q) (hf : ∀ q, free q → A0 q) (hAX : ∀ q, q < H.size → AX q → A0 q)
    (kx : ∀ (E : String) (ce : Cell) (q9 : Addr) (u : SX) (t : State) (H1 : Heap) (locs1 : List Loc), t.heap = H1 → s.vm.Alike t.vm → px u → BX E u t → H.size ≤ H1.size → (∀ q : Nat, q < H.size → ¬ AX q → H1[q]? = H[q]?) → va_S A0 H0 H1 locs1 → H1[q9]? = some ce → ce.vm = .none → s.vm.findClass E = some ce.cls → vx_W p l e R s m args below meth c H1 locs1 (cells + mc) (slots + ms) Q (F0 m pc ls rest) q9)
    (kk : ∀ (r : Int32) (u : S) (t : State) (H1 : Heap) (locs1 : List Loc), t.heap = H1 → s.vm.Alike t.vm → post r u → B u t → H.size ≤ H1.size → (∀ q : Nat, q < H.size → ¬ A1 q → H1[q]? = H[q]?) → va_S A0 H0 H1 locs1 → W p l e R s m args below meth c H1 locs1 (cells + mc) (slots + ms) Q (F0 m (pc + 3) ls (.int r :: rest))) : W p l e R s m args below meth c H locs cells slots Q (F0 m pc ls st0) := by
  intro T hT X
  rcases hr T hT X with ⟨v, st₀, t, T', L, h0, X', hL, e1, e2, ⟨⟨r, u, hv, hp, hb⟩, hF⟩, st⟩ | ⟨q, st₀, t, T', L, E, ce, h0, X', hL, e1, e2, ⟨u, hp, hb, hF⟩, hce, hcv, hcl, st⟩
  · cases hv
    obtain ⟨k1, k2, k3⟩ := vx_keep h0 e1 hS hA hf hL hF
    obtain ⟨t2, a1, b1⟩ := kk r u t T'.heap (locs ++ L) e1.symm (by rw [← e2]; exact X'.warmed.alike) hp hb k1 k2 k3 T' rfl X'
    exact ⟨t2, st t2 a1, b1⟩
  · obtain ⟨k1, k2, k3⟩ := vx_keep h0 e1 hS hAX hf hL hF
    obtain ⟨t2, a1, b1⟩ := kx E ce q u t T'.heap (locs ++ L) e1.symm (by rw [← e2]; exact X'.warmed.alike) hp hb k1 k2 k3 (by rw [e1]; exact hce) hcv hcl T' rfl X'
    exact ⟨t2, st.trans a1, b1⟩
theorem vx_calll {S SX : Type} {post : Int64 → S → Prop} {px : SX → Prop} {B : S → State → Prop} {BX : String → SX → State → Prop} {AX : Nat → Prop} (hr : vx_Run p l e R s m args below meth c H locs cells slots mc ms (F0 m pc ls st0) rest (va_Ql post B A1 a) (vx_X px BX AX) free) (hS : va_S A0 H0 H locs) (hA : ∀ q, q < H.size → A1 q → A0 q) (hf : ∀ q, free q → A0 q) (hAX : ∀ q, q < H.size → AX q → A0 q)
    (kx : ∀ (E : String) (ce : Cell) (q9 : Addr) (u : SX) (t : State) (H1 : Heap) (locs1 : List Loc), t.heap = H1 → s.vm.Alike t.vm → px u → BX E u t → H.size ≤ H1.size → (∀ q : Nat, q < H.size → ¬ AX q → H1[q]? = H[q]?) → va_S A0 H0 H1 locs1 → H1[q9]? = some ce → ce.vm = .none → s.vm.findClass E = some ce.cls → vx_W p l e R s m args below meth c H1 locs1 (cells + mc) (slots + ms) Q (F0 m pc ls rest) q9)
    (kk : ∀ (r : Int64) (u : S) (t : State) (H1 : Heap) (locs1 : List Loc), t.heap = H1 → s.vm.Alike t.vm → post r u → B u t → H.size ≤ H1.size → (∀ q : Nat, q < H.size → ¬ A1 q → H1[q]? = H[q]?) → va_S A0 H0 H1 locs1 → W p l e R s m args below meth c H1 locs1 (cells + mc) (slots + ms) Q (F0 m (pc + 3) ls (.long r :: rest))) : W p l e R s m args below meth c H locs cells slots Q (F0 m pc ls st0) := by
  intro T hT X
  rcases hr T hT X with ⟨v, st₀, t, T', L, h0, X', hL, e1, e2, ⟨⟨r, u, hv, hp, hb⟩, hF⟩, st⟩ | ⟨q, st₀, t, T', L, E, ce, h0, X', hL, e1, e2, ⟨u, hp, hb, hF⟩, hce, hcv, hcl, st⟩
  · cases hv
    obtain ⟨k1, k2, k3⟩ := vx_keep h0 e1 hS hA hf hL hF
    obtain ⟨t2, a1, b1⟩ := kk r u t T'.heap (locs ++ L) e1.symm (by rw [← e2]; exact X'.warmed.alike) hp hb k1 k2 k3 T' rfl X'
    exact ⟨t2, st t2 a1, b1⟩
  · obtain ⟨k1, k2, k3⟩ := vx_keep h0 e1 hS hAX hf hL hF
    obtain ⟨t2, a1, b1⟩ := kx E ce q u t T'.heap (locs ++ L) e1.symm (by rw [← e2]; exact X'.warmed.alike) hp hb k1 k2 k3 (by rw [e1]; exact hce) hcv hcl T' rfl X'
    exact ⟨t2, st.trans a1, b1⟩
theorem vx_callf {S SX : Type} {post : UInt32 → S → Prop} {px : SX → Prop} {B : S → State → Prop} {BX : String → SX → State → Prop} {AX : Nat → Prop} (hr : vx_Run p l e R s m args below meth c H locs cells slots mc ms (F0 m pc ls st0) rest (va_Qf post B A1 a) (vx_X px BX AX) free) (hS : va_S A0 H0 H locs) (hA : ∀ q, q < H.size → A1 q → A0 q) (hf : ∀ q, free q → A0 q) (hAX : ∀ q, q < H.size → AX q → A0 q)
    (kx : ∀ (E : String) (ce : Cell) (q9 : Addr) (u : SX) (t : State) (H1 : Heap) (locs1 : List Loc), t.heap = H1 → s.vm.Alike t.vm → px u → BX E u t → H.size ≤ H1.size → (∀ q : Nat, q < H.size → ¬ AX q → H1[q]? = H[q]?) → va_S A0 H0 H1 locs1 → H1[q9]? = some ce → ce.vm = .none → s.vm.findClass E = some ce.cls → vx_W p l e R s m args below meth c H1 locs1 (cells + mc) (slots + ms) Q (F0 m pc ls rest) q9)
    (kk : ∀ (r : UInt32) (u : S) (t : State) (H1 : Heap) (locs1 : List Loc), t.heap = H1 → s.vm.Alike t.vm → post r u → B u t → H.size ≤ H1.size → (∀ q : Nat, q < H.size → ¬ A1 q → H1[q]? = H[q]?) → va_S A0 H0 H1 locs1 → W p l e R s m args below meth c H1 locs1 (cells + mc) (slots + ms) Q (F0 m (pc + 3) ls (.float r :: rest))) : W p l e R s m args below meth c H locs cells slots Q (F0 m pc ls st0) := by
  intro T hT X
  rcases hr T hT X with ⟨v, st₀, t, T', L, h0, X', hL, e1, e2, ⟨⟨r, u, hv, hp, hb⟩, hF⟩, st⟩ | ⟨q, st₀, t, T', L, E, ce, h0, X', hL, e1, e2, ⟨u, hp, hb, hF⟩, hce, hcv, hcl, st⟩
  · cases hv
    obtain ⟨k1, k2, k3⟩ := vx_keep h0 e1 hS hA hf hL hF
    obtain ⟨t2, a1, b1⟩ := kk r u t T'.heap (locs ++ L) e1.symm (by rw [← e2]; exact X'.warmed.alike) hp hb k1 k2 k3 T' rfl X'
    exact ⟨t2, st t2 a1, b1⟩
  · obtain ⟨k1, k2, k3⟩ := vx_keep h0 e1 hS hAX hf hL hF
    obtain ⟨t2, a1, b1⟩ := kx E ce q u t T'.heap (locs ++ L) e1.symm (by rw [← e2]; exact X'.warmed.alike) hp hb k1 k2 k3 (by rw [e1]; exact hce) hcv hcl T' rfl X'
    exact ⟨t2, st.trans a1, b1⟩
theorem vx_calld {S SX : Type} {post : UInt64 → S → Prop} {px : SX → Prop} {B : S → State → Prop} {BX : String → SX → State → Prop} {AX : Nat → Prop} (hr : vx_Run p l e R s m args below meth c H locs cells slots mc ms (F0 m pc ls st0) rest (va_Qd post B A1 a) (vx_X px BX AX) free) (hS : va_S A0 H0 H locs) (hA : ∀ q, q < H.size → A1 q → A0 q) (hf : ∀ q, free q → A0 q) (hAX : ∀ q, q < H.size → AX q → A0 q)
    (kx : ∀ (E : String) (ce : Cell) (q9 : Addr) (u : SX) (t : State) (H1 : Heap) (locs1 : List Loc), t.heap = H1 → s.vm.Alike t.vm → px u → BX E u t → H.size ≤ H1.size → (∀ q : Nat, q < H.size → ¬ AX q → H1[q]? = H[q]?) → va_S A0 H0 H1 locs1 → H1[q9]? = some ce → ce.vm = .none → s.vm.findClass E = some ce.cls → vx_W p l e R s m args below meth c H1 locs1 (cells + mc) (slots + ms) Q (F0 m pc ls rest) q9)
    (kk : ∀ (r : UInt64) (u : S) (t : State) (H1 : Heap) (locs1 : List Loc), t.heap = H1 → s.vm.Alike t.vm → post r u → B u t → H.size ≤ H1.size → (∀ q : Nat, q < H.size → ¬ A1 q → H1[q]? = H[q]?) → va_S A0 H0 H1 locs1 → W p l e R s m args below meth c H1 locs1 (cells + mc) (slots + ms) Q (F0 m (pc + 3) ls (.double r :: rest))) : W p l e R s m args below meth c H locs cells slots Q (F0 m pc ls st0) := by
  intro T hT X
  rcases hr T hT X with ⟨v, st₀, t, T', L, h0, X', hL, e1, e2, ⟨⟨r, u, hv, hp, hb⟩, hF⟩, st⟩ | ⟨q, st₀, t, T', L, E, ce, h0, X', hL, e1, e2, ⟨u, hp, hb, hF⟩, hce, hcv, hcl, st⟩
  · cases hv
    obtain ⟨k1, k2, k3⟩ := vx_keep h0 e1 hS hA hf hL hF
    obtain ⟨t2, a1, b1⟩ := kk r u t T'.heap (locs ++ L) e1.symm (by rw [← e2]; exact X'.warmed.alike) hp hb k1 k2 k3 T' rfl X'
    exact ⟨t2, st t2 a1, b1⟩
  · obtain ⟨k1, k2, k3⟩ := vx_keep h0 e1 hS hAX hf hL hF
    obtain ⟨t2, a1, b1⟩ := kx E ce q u t T'.heap (locs ++ L) e1.symm (by rw [← e2]; exact X'.warmed.alike) hp hb k1 k2 k3 (by rw [e1]; exact hce) hcv hcl T' rfl X'
    exact ⟨t2, st.trans a1, b1⟩
theorem vx_callv {S SX : Type} {post : S → Prop} {px : SX → Prop} {B : S → State → Prop} {BX : String → SX → State → Prop} {AX : Nat → Prop} (hr : vx_Run p l e R s m args below meth c H locs cells slots mc ms (F0 m pc ls st0) rest (va_Qv post B A1 a) (vx_X px BX AX) free) (hS : va_S A0 H0 H locs) (hA : ∀ q, q < H.size → A1 q → A0 q) (hf : ∀ q, free q → A0 q) (hAX : ∀ q, q < H.size → AX q → A0 q)
    (kx : ∀ (E : String) (ce : Cell) (q9 : Addr) (u : SX) (t : State) (H1 : Heap) (locs1 : List Loc), t.heap = H1 → s.vm.Alike t.vm → px u → BX E u t → H.size ≤ H1.size → (∀ q : Nat, q < H.size → ¬ AX q → H1[q]? = H[q]?) → va_S A0 H0 H1 locs1 → H1[q9]? = some ce → ce.vm = .none → s.vm.findClass E = some ce.cls → vx_W p l e R s m args below meth c H1 locs1 (cells + mc) (slots + ms) Q (F0 m pc ls rest) q9)
    (kk : ∀ (u : S) (t : State) (H1 : Heap) (locs1 : List Loc), t.heap = H1 → s.vm.Alike t.vm → post u → B u t → H.size ≤ H1.size → (∀ q : Nat, q < H.size → ¬ A1 q → H1[q]? = H[q]?) → va_S A0 H0 H1 locs1 → W p l e R s m args below meth c H1 locs1 (cells + mc) (slots + ms) Q (F0 m (pc + 3) ls (rest))) : W p l e R s m args below meth c H locs cells slots Q (F0 m pc ls st0) := by
  intro T hT X
  rcases hr T hT X with ⟨v, st₀, t, T', L, h0, X', hL, e1, e2, ⟨⟨u, hv, hp, hb⟩, hF⟩, st⟩ | ⟨q, st₀, t, T', L, E, ce, h0, X', hL, e1, e2, ⟨u, hp, hb, hF⟩, hce, hcv, hcl, st⟩
  · cases hv
    obtain ⟨k1, k2, k3⟩ := vx_keep h0 e1 hS hA hf hL hF
    obtain ⟨t2, a1, b1⟩ := kk u t T'.heap (locs ++ L) e1.symm (by rw [← e2]; exact X'.warmed.alike) hp hb k1 k2 k3 T' rfl X'
    exact ⟨t2, st t2 a1, b1⟩
  · obtain ⟨k1, k2, k3⟩ := vx_keep h0 e1 hS hAX hf hL hF
    obtain ⟨t2, a1, b1⟩ := kx E ce q u t T'.heap (locs ++ L) e1.symm (by rw [← e2]; exact X'.warmed.alike) hp hb k1 k2 k3 (by rw [e1]; exact hce) hcv hcl T' rfl X'
    exact ⟨t2, st.trans a1, b1⟩
/-- caught by the row x of this method's table; the rows ahead don't take it -/
theorem vx_catch {own name : String} {E : String} {ce : Cell} {q : Addr} (hown : s.vm.findClass own = some m.cls) (pre : List ExceptionTableEntry) (x : ExceptionTableEntry) (suf : List ExceptionTableEntry) (hsplit : c.exceptionTable.toList = pre ++ x :: suf)
    (hpass : ∀ z ∈ pre, covers z pc = false ∨ (z.catchType ≠ 0 ∧ ∃ nm : String, (Cond.classLink own z.catchType nm).before args s = true ∧ va_Nc E nm s)) (hx : covers x pc = true) (h0 : x.catchType ≠ 0)
    (hlink : (Cond.classLink own x.catchType name).before args s = true) (hcast : (Cond.castable E name).before args s = true) (hcell : H[q]? = some ce) (hv : ce.vm = .none) (hcl : s.vm.findClass E = some ce.cls)
    (kk : W p l e R s m args below meth c H locs cells slots Q (F0 m x.handlerPc ls [.ref q])) : vx_W p l e R s m args below meth c H locs cells slots Q (F0 m pc ls rest) q := by
  intro T hT X
  have hpl : e.platform.magicAccessors = ({} : Platform).magicAccessors := by rw [X.admits.platform]
  obtain ⟨c3, c4, hc3, hc4, hasg⟩ := Cond.castable_spec hcast
  cases Option.some.inj (hc3.symm.trans hcl)
  obtain ⟨c5, hc5, hcl5⟩ := Cond.classLink_spec hown hlink e.platform hpl
  cases Option.some.inj (hc4.symm.trans hc5)
  obtain ⟨vm', X', st⟩ := X.thenCaughtThrough q (g := F0 m pc ls rest) rfl (Steps.refl _) (by rw [hT]; exact hcell) (by rw [hv]; rfl) (by obtain ⟨k9, h9, -⟩ := Vm.findClass_spec hcl; exact ⟨k9, h9⟩) pre x suf hsplit
    (fun z hz => by
      rcases hpass z hz with h | ⟨hz0, nm, hl1, hn1⟩
      · exact Or.inl h
      · obtain ⟨c6, hc6, hcl6⟩ := Cond.classLink_spec hown hl1 e.platform hpl
        obtain ⟨a8, b8, h1, h2, h3⟩ := hn1
        cases Option.some.inj (h1.symm.trans hcl)
        cases Option.some.inj (h2.symm.trans hc6)
        exact Or.inr ⟨hz0, _, hcl6, h3⟩) hx (Or.inr ⟨h0, c4, hcl5, hasg⟩)
  obtain ⟨t, a1, b1⟩ := kk (T.setVm vm') hT X'
  exact ⟨t, st.trans a1, b1⟩
end Rows
section Ends
variable {p : Program} {l : Launch} {e : Env} {R : Room} {s : State} {m : MethodId} {args : Array Value} {below : List Frame} {meth : Method} {c : Code} {H : Heap} {locs : List Loc} {cells slots : Nat} {Q : State → Prop}
variable {mc ms : Nat} {free : Addr → Prop} {A0 A1 : Nat → Prop} {H0 : Heap} {a : Array Value} {ls : Array Slot} {st0 rest : List Value}
variable {Qc : Array Value → State → Outcome → State → Prop} {XC : String → State → State → Prop}
/-- what a body that may throw owes at its end -/
def vx_MQ (below : List Frame) (Qc : Array Value → State → Outcome → State → Prop) (XC : String → State → State → Prop) (a : Array Value) (s : State) (mc ms : Nat) (free : Addr → Prop) : State → Prop := fun t =>
  ∃ o, t.status = .running ∧ Ended t below o ∧ vx_Q Qc XC mc ms free a s o t
theorem vx_ret {g : JFrame} {mc ms : Nat} (k : W p l e R s m args below meth c H locs cells slots (MQ below Qc args s mc ms free) g) : W p l e R s m args below meth c H locs cells slots (vx_MQ below Qc XC args s mc ms free) g := by
  intro T hT X
  obtain ⟨t, a1, o, b1, b2, b3, b4⟩ := k T hT X
  exact ⟨t, a1, o, b1, b2, Or.inl ⟨b3, b4⟩⟩
/-- not caught here: it goes on to the caller -/
theorem vx_widen {g : JFrame} {q : Addr} {k n : Nat} (h1 : cells ≤ k) (h2 : slots ≤ n) (kk : vx_W p l e R s m args below meth c H locs k n Q g q) : vx_W p l e R s m args below meth c H locs cells slots Q g q := fun T hT X => kk T hT (stand_widen X h1 h2)
theorem vx_out {pc : Nat} {E : String} {ce : Cell} {q : Addr} {mc ms : Nat} (hout : ∀ x ∈ c.exceptionTable.toList, covers x pc = false) (hlocks : meth.locks = false) (hcell : H[q]? = some ce) (hv : ce.vm = .none) (hcl : s.vm.findClass E = some ce.cls)
    (hx : ∀ t : State, t.heap = H → s.vm.Alike t.vm → XC E s t) (hf : ∀ z ∈ locs, free z.base) (hc : cells ≤ mc) (hs : slots ≤ ms) :
    vx_W p l e R s m args below meth c H locs cells slots (vx_MQ below Qc XC args s mc ms free) (F0 m pc ls rest) q := by
  intro T hT X
  obtain ⟨st1, hrun, hend, hW, hsm⟩ := X.leaveThrown q (g := F0 m pc ls rest) rfl rfl rfl hout hlocks
  have hcell9 : (T.setFrames (.throwing q :: below)).heap[q]? = some ce := by
    show T.heap[q]? = some ce
    rw [hT]; exact hcell
  exact ⟨_, st1, .threw q, hrun, hend, Or.inr ⟨q, rfl, E, ce, locs, hx _ hT hW.alike, hcell9, hv, hcl, hW, hsm.mono hc hs, hf⟩⟩
theorem vx_frame {U : State} {k n : Nat} (h : s.sameButNew ({ U with vm := s.vm } : State) locs k n) : s.heap.size ≤ U.heap.size ∧ ∀ q : Nat, q < s.heap.size → (∀ z ∈ locs, z.base ≠ q) → U.heap[q]? = s.heap[q]? := by
  obtain ⟨-, h2, -, -, -, h6⟩ := h
  refine ⟨h2, fun q hq hz => ?_⟩
  obtain ⟨c9, e1, e2, e3, e4⟩ := h6 q _ (Array.getElem?_eq_getElem hq)
  have hs : c9.slots = (s.heap[q]).slots := Array.ext_getElem? fun i => e4 i fun hm => hz _ hm rfl
  have h9 : c9 = s.heap[q] := by
    rw [hs] at e2
    exact e2
  have e5 : U.heap[q]? = some c9 := e1
  rw [e5, h9, Array.getElem?_eq_getElem hq]
/-- the words of a throw but the four that speak of the heap -/
def vx_no (w : Cond) : Bool := decide (w ≠ .isRef (.static Bundle.tN "UNASSIGNED_STACK" Bundle.steD)) && decide (w ≠ .isRef (.static Bundle.tN "SUPPRESSED_SENTINEL" Bundle.listD)) && decide (w ≠ .laysStatic Bundle.tN "UNASSIGNED_STACK" Bundle.steD) && decide (w ≠ .laysStatic Bundle.tN "SUPPRESSED_SENTINEL" Bundle.listD)
def vx_at0 (own : String) (ic : Nat) (X : String) (names : List String) : List Cond := (Bundle.ownAtoms0 own ic X names).filter vx_no
def vx_atS (own : String) (ic : Nat) (X : String) (names : List String) : List Cond := (Bundle.ownAtoms own ic X names).filter vx_no
/-- a word that the tables alone decide, or a good one -/
def vx_ot (w : Cond) : Bool := w.onTables || goodWord w
theorem vx_ot_at {args a' : Array Value} {s U : State} {w : Cond} (hW : s.WarmedH U.vm) (hvm : s.vm = U.vm) (hg : vx_ot w = true) (h : w.before args s = true) : w.before a' U = true := by
  simp only [vx_ot, Bool.or_eq_true] at hg
  rcases hg with hg | hg
  · exact va_tabs hg hvm h
  · exact word_at hW (good_of_word hg) h
/-- a list's words: the good ones out of the method's own list, the others by premises of their own -/
theorem vx_hat {args : Array Value} {s : State} {L B : List Cond} (h1 : ∀ w ∈ L.filter goodWord, w.before args s = true) (h2 : ∀ w ∈ L.filter (fun w => !goodWord w), w ∈ B) (h3 : ∀ w ∈ B, w.before args s = true) : ∀ w ∈ L, w.before args s = true := by
  intro w hw
  by_cases g : goodWord w = true
  · exact h1 w (List.mem_filter.mpr ⟨hw, g⟩)
  · refine h3 w (h2 w (List.mem_filter.mpr ⟨hw, ?_⟩))
    show (!goodWord w) = true
    cases hgw : goodWord w
    · rfl
    · exact absurd hgw g
theorem vx_c {args : Array Value} {s : State} {w : Cond} {B : List Cond} (h : w.before args s = true) (t : ∀ w ∈ B, w.before args s = true) : ∀ w' ∈ w :: B, w'.before args s = true := fun w' h' => (List.mem_cons.mp h').elim (fun e => by rw [e]; exact h) (t w')
theorem vx_n {args : Array Value} {s : State} : ∀ w ∈ ([] : List Cond), w.before args s = true := fun _ h => nomatch h
theorem vx_own {args : Array Value} {s : State} {L : List Cond} (h1 : ∀ w ∈ L.filter vx_no, w.before args s = true)
    (hU : (Cond.isRef (.static Bundle.tN "UNASSIGNED_STACK" Bundle.steD)).before args s = true) (hN : (Cond.isRef (.static Bundle.tN "SUPPRESSED_SENTINEL" Bundle.listD)).before args s = true)
    (lU : (Cond.laysStatic Bundle.tN "UNASSIGNED_STACK" Bundle.steD).before args s = true) (lN : (Cond.laysStatic Bundle.tN "SUPPRESSED_SENTINEL" Bundle.listD).before args s = true) : ∀ w ∈ L, w.before args s = true := by
  intro w hw
  by_cases e1 : w = .isRef (.static Bundle.tN "UNASSIGNED_STACK" Bundle.steD)
  · rw [e1]; exact hU
  · by_cases e2 : w = .isRef (.static Bundle.tN "SUPPRESSED_SENTINEL" Bundle.listD)
    · rw [e2]; exact hN
    · by_cases e3 : w = .laysStatic Bundle.tN "UNASSIGNED_STACK" Bundle.steD
      · rw [e3]; exact lU
      · by_cases e4 : w = .laysStatic Bundle.tN "SUPPRESSED_SENTINEL" Bundle.listD
        · rw [e4]; exact lN
        · exact h1 w (List.mem_filter.mpr ⟨hw, by unfold vx_no; rw [decide_eq_true e1, decide_eq_true e2, decide_eq_true e3, decide_eq_true e4]; rfl⟩)
/-- where a static field lies, its class's statics cell in H -/
def vx_L (C n d : String) (A : Nat → Prop) (U : State) (H : Heap) : Prop := ∃ (c : ClassId) (k : Class) (i : Nat) (f : Field) (a : Nat) (cell : Cell), U.vm.findClass C = some c ∧ U.fieldFound? C n d = some (c, k, i, f) ∧ f.isStatic = true ∧ k.statics = some a ∧ H[a]? = some cell ∧ cell.vm.isStatics = true ∧ cell.cls = c ∧ f.slot < cell.slots.size ∧ k.staticTypes[f.slot]? = some f.type ∧ ¬ A a
theorem vx_L.moved {C n d : String} {A : Nat → Prop} {u U : State} {H : Heap} (hvm : u.vm.Alike U.vm) (h : vx_L C n d A u H) : vx_L C n d A U H := by
  obtain ⟨c, k, i, f, a, cell, h1, h2, h3, h4, h5, h6, h7, h8, h9, h10⟩ := h
  obtain ⟨k', hi', he⟩ := State.fieldFound?_setVm hvm h2
  exact ⟨c, k', i, f, a, cell, by rw [hvm.findClass]; exact h1, hi', h3, by rw [he]; exact h4, h5, h6, h7, h8, by rw [he]; exact h9, h10⟩
theorem vx_L.kept {C n d : String} {A : Nat → Prop} {U : State} {H H1 : Heap} (h : vx_L C n d A U H) (hq : ∀ a : Nat, a < H.size → ¬ A a → H1[a]? = H[a]?) : vx_L C n d A U H1 := by
  obtain ⟨c, k, i, f, a, cell, h1, h2, h3, h4, h5, h6, h7, h8, h9, h10⟩ := h
  exact ⟨c, k, i, f, a, cell, h1, h2, h3, h4, by rw [hq a (Array.getElem?_eq_some_iff.mp h5).1 h10]; exact h5, h6, h7, h8, h9, h10⟩
theorem vx_L.narrow {C n d : String} {A B : Nat → Prop} {U : State} {H : Heap} (h : vx_L C n d A U H) (hAB : ∀ q, B q → A q) : vx_L C n d B U H := by
  obtain ⟨c, k, i, f, a, cell, h1, h2, h3, h4, h5, h6, h7, h8, h9, h10⟩ := h
  exact ⟨c, k, i, f, a, cell, h1, h2, h3, h4, h5, h6, h7, h8, h9, fun z => h10 (hAB _ z)⟩
theorem vx_L.word {C n d : String} {A : Nat → Prop} {s : State} {args : Array Value} (h : vx_L C n d A s s.heap) : (Cond.laysStatic C n d).before args s = true := by
  obtain ⟨c, k, i, f, a, cell, h1, h2, h3, h4, h5, h6, h7, h8, h9, -⟩ := h
  show (Cond.laysStatic C n d).holds args s none s [] = true
  exact Cond.laysStatic_of h1 h2 h3 h4 h5 h6 h7 h8 h9
/-- .. and what it holds: null or some reference -/
def vx_Zq (C n d : String) (A : Nat → Prop) (U : State) (H : Heap) : Prop := va_Zq C n d A U H ∧ vx_L C n d A U H
theorem vx_Zq.moved {C n d : String} {A : Nat → Prop} {u U : State} {H : Heap} (hvm : u.vm.Alike U.vm) (h : vx_Zq C n d A u H) : vx_Zq C n d A U H := ⟨va_Zq.moved hvm h.1, vx_L.moved hvm h.2⟩
theorem vx_Zq.kept {C n d : String} {A : Nat → Prop} {U : State} {H H1 : Heap} (h : vx_Zq C n d A U H) (hq : ∀ a : Nat, a < H.size → ¬ A a → H1[a]? = H[a]?) : vx_Zq C n d A U H1 := ⟨va_Zq.kept h.1 hq, vx_L.kept h.2 hq⟩
theorem vx_Zq.narrow {C n d : String} {A B : Nat → Prop} {U : State} {H : Heap} (h : vx_Zq C n d A U H) (hAB : ∀ q, B q → A q) : vx_Zq C n d B U H := ⟨va_Zq.narrow h.1 hAB, vx_L.narrow h.2 hAB⟩
theorem vx_Zqof {args : Array Value} {s : State} {C n d : String} {A : Nat → Prop} (hl : (Cond.laysStatic C n d).before args s = true) (hini : (Cond.initialized C).before args s = true) (h : (Cond.isRef (.static C n d)).before args s = true) (hA : ∀ a : Nat, a < s.heap.size → ¬ A a) : vx_Zq C n d A s s.heap := by
  refine ⟨va_Zqof hl hini h hA, ?_⟩
  obtain ⟨c, k, i, f, a, cell, h1, h2, h3, h4, h5, h6, h7, h8, h9⟩ := Cond.laysStatic_spec hl
  exact ⟨c, k, i, f, a, cell, h1, h2, h3, h4, h5, h6, h7, h8, h9, hA a (Array.getElem?_eq_some_iff.mp h5).1⟩
theorem vx_isRef {C n d : String} {v : Value} {A : Nat → Prop} {s : State} {args : Array Value} (h : va_Z C n d v A s s.heap) (hv : v.isRef = true) : (Cond.isRef (.static C n d)).before args s = true := by
  obtain ⟨cf, kf, fi, f, a, cell, h1, h2, h3, h4, h5, h6, h7, -⟩ := h
  have he : (Term.static C n d).eval args s none [] s = some v := by
    simp [Term.eval, State.fieldNamed?, h1, h2, h4, h5, h6, h7]
  simp only [Cond.before, Cond.holds, Cond.value, he]
  cases v <;> simp_all [Value.isRef]
theorem vx_isRefq {C n d : String} {A : Nat → Prop} {s : State} {args : Array Value} (h : va_Zq C n d A s s.heap) : (Cond.isRef (.static C n d)).before args s = true := by
  rcases h with h | ⟨t, h⟩
  · exact vx_isRef h rfl
  · exact vx_isRef h rfl
/-- the same frame, seen from here: as if the method were called anew in this heap -/
theorem vx_rebase {T : State} (X : Stand p l e R s m args below meth c T locs cells slots) {R' : Room} (hf : R'.frames ≤ R.frames) (hl : R'.locals ≤ R.locals) (hc : cells + R'.cells ≤ R.cells) (hs : slots + R'.slots ≤ R.slots) :
    Stand p l e R' ((T.setVm s.vm).setFrames (.invoking m args :: below)) m args below meth c T [] 0 0 := by
  have htop : (T.setVm s.vm).topJava?.isSome := X.here.top
  have hF : ((T.setVm s.vm).setFrames (.invoking m args :: below)).frames = .invoking m args :: below := State.frames_setFrames _ (State.cur_lt_of_top htop)
  obtain ⟨g₀, hg0⟩ := Option.isSome_iff_exists.mp htop
  obtain ⟨r, hr⟩ := State.topJava?_eq_some.mp hg0
  have hl9 : e.platform.stackLimits (T.setVm s.vm).me = e.platform.stackLimits s.me := X.limits
  have hb9 : (T.setVm s.vm).me.stackBytes = s.me.stackBytes := X.bytes
  refine ⟨X.admits, X.cas, X.clock, hF, ?_, X.hears, X.method, X.code, X.here, X.tail, X.warmed, ?_, ?_, ?_⟩
  · have h := X.room
    have hU : ((T.setVm s.vm).setFrames (.invoking m args :: below)).localsInUse = s.localsInUse := by
      rw [State.localsInUse_invoking hF (meth := meth) (c := c) X.method X.code, State.localsInUse_invoking X.frames X.method X.code]
    simp only [State.hasRoom, Bool.and_eq_true, decide_eq_true_eq] at h ⊢
    obtain ⟨⟨⟨⟨h1, h2, h3, h4, h5, h6⟩, h7⟩, h8⟩, h9⟩ := h
    rw [X.frames, List.length_cons] at h2 h3
    have q1 := X.heapSize
    have q2 := X.used
    simp only [hF, hU, List.length_cons, State.stackLimits_setFrames, State.stackBytes_setFrames, hl9, hb9]
    refine ⟨⟨⟨⟨by omega, by omega, by omega, by omega, by omega, h6⟩, ?_⟩, ?_⟩, X.book⟩
    · show T.heap.size + R'.cells ≤ e.platform.maxCells
      omega
    · show T.slotsUsed + R'.slots ≤ e.platform.maxSlots
      omega
  · rw [State.stackLimits_setFrames]; rfl
  · rw [State.stackBytes_setFrames]; rfl
  · refine ⟨?_, Nat.le_refl _, Nat.le_refl _, ?_, ?_, fun a c9 h9 => ⟨c9, h9, rfl, rfl, fun _ _ => rfl⟩⟩
    · obtain ⟨t, ht, -⟩ := State.frames_cons hr
      show T.setVm s.vm = { ((T.setVm s.vm).setFrames (.invoking m args :: below)).setFrames (T.setVm s.vm).frames with heap := T.heap, slotsUsed := T.slotsUsed }
      rw [State.setFrames_setFrames, State.setFrames_self ht]
      rfl
    · show T.slotsUsed = T.slotsUsed + ((T.heap.toList.drop T.heap.size).map (·.slots.size)).sum
      rw [List.drop_eq_nil_of_le (Nat.le_of_eq Array.length_toList)]
      rfl
    · show ((T.heap.toList.drop T.heap.size).map (·.slots.size)).sum ≤ 0
      rw [List.drop_eq_nil_of_le (Nat.le_of_eq Array.length_toList)]
      exact Nat.le_refl _
/-- 'throw new E()': new; dup; invokespecial; athrow -/
theorem vx_throw0 {cc : ByteArray} {pc : Nat} (hexec : p.tables.exec = Jvm.exec) (hb : c.code = cc) (hl : l.stackTraces = false) {own cls : String} {names : List String} {ik ic mc ms : Nat} {A : Nat → Prop}
    (hown : s.vm.findClass own = some m.cls) (hcls : Bundle.fit cls = true) (hnames : ∀ n ∈ names, Bundle.fit n = true)
    (hk : (Cond.classLink own ik cls).before args s = true) (hini : (Cond.initialized cls).before args s = true) (hat : ∀ w ∈ vx_at0 own ic cls names, w.before args s = true)
    (hgood : ∀ w ∈ Cond.classLink own ik cls :: Cond.initialized cls :: vx_at0 own ic cls names, vx_ot w = true)
    (hU : vx_Zq Bundle.tN "UNASSIGNED_STACK" Bundle.steD A s s.heap) (hN : vx_Zq Bundle.tN "SUPPRESSED_SENTINEL" Bundle.listD A s s.heap) (hS : va_S A s.heap H locs) (hsize : ls.size = c.maxLocals)
    (d0 : decode cc pc = .ok (.new ik, 3)) (d3 : decode cc (pc + 3) = .ok (.dup, 1)) (d4 : decode cc (pc + 4) = .ok (.invokespecial ic, 3)) (d7 : decode cc (pc + 7) = .ok (.athrow, 1))
    (hout : ∀ x ∈ c.exceptionTable.toList, covers x (pc + 7) = false)
    (hRframes : names.length + 3 < R.frames) (hRlocals : (rest.map fun v => v.category).sum + (13 * (names.length + 1) + 42) ≤ R.locals) (hRcells : cells + 1 ≤ R.cells) (hRslots : slots + 6 ≤ R.slots) (hlocks : meth.locks = false)
    (hx : ∀ t : State, s.vm.Alike t.vm → H.size ≤ t.heap.size → (∀ q : Nat, q < H.size → t.heap[q]? = H[q]?) → XC cls s t)
    (hf : ∀ z ∈ locs, free z.base) (hc : cells + 1 ≤ mc) (hs : slots + 6 ≤ ms) :
    W p l e R s m args below meth c H locs cells slots (vx_MQ below Qc XC args s mc ms free) (F0 m pc ls rest) := by
  intro T hT X
  have htr : e.platform.stackTraces = false := (show e.platform.stackTraces = l.stackTraces by rw [X.admits.platform]).trans hl
  have Y := vx_rebase X (R' := { frames := R.frames, locals := R.locals, cells := 1, slots := 6 }) (Nat.le_refl _) (Nat.le_refl _) hRcells hRslots
  obtain ⟨s', hA⟩ : ∃ z, z = (T.setVm s.vm).setFrames (.invoking m args :: below) := ⟨_, rfl⟩
  rw [← hA] at Y
  have hvm : s'.vm = s.vm := by rw [hA]; rfl
  have hhp : s'.heap = H := by rw [hA]; exact hT
  have hW0 : s.WarmedH s'.vm := by rw [hvm]; exact State.WarmedH.refl s
  have hat' : ∀ w ∈ vx_at0 own ic cls names, w.before args s' = true := fun w hw => vx_ot_at hW0 hvm.symm (hgood w (List.mem_cons_of_mem _ (List.mem_cons_of_mem _ hw))) (hat w hw)
  have hk' : (Cond.classLink own ik cls).before args s' = true := vx_ot_at hW0 hvm.symm (hgood _ List.mem_cons_self) hk
  have hini' : (Cond.initialized cls).before args s' = true := vx_ot_at hW0 hvm.symm (hgood _ (List.mem_cons_of_mem _ List.mem_cons_self)) hini
  have hU' : vx_Zq Bundle.tN "UNASSIGNED_STACK" Bundle.steD A s' s'.heap := by rw [hhp]; exact vx_Zq.moved hW0.alike (hU.kept hS.2.1)
  have hN' : vx_Zq Bundle.tN "SUPPRESSED_SENTINEL" Bundle.listD A s' s'.heap := by rw [hhp]; exact vx_Zq.moved hW0.alike (hN.kept hS.2.1)
  have h : ∀ w ∈ Bundle.ownAtoms0 own ic cls names, w.before args s' = true := vx_own hat' (vx_isRefq hU'.1) (vx_isRefq hN'.1) hU'.2.word hN'.2.word
  have hown' : s'.vm.findClass own = some m.cls := by rw [hvm]; exact hown
  have hins : (Cond.instantiable cls 6).before args s' = true := h _ (by simp [Bundle.ownAtoms0])
  obtain ⟨vm₁, cX, kX, hfX, hkX, -, -, X₁, st1⟩ := Y.newCold hexec (own := own) (C := cls) (index := ik) (n := 6) hown' hk' hins hini'
    (g := F0 m pc ls rest) rfl (by rw [hb]; exact d0) (Nat.le_refl _) (Nat.le_refl _)
  generalize hT1 : (T.setVm vm₁).pushCell { cls := cX, slots := kX.instanceTypes.map defaultValue, vm := .none } = T1 at X₁ st1
  have hcat : (Value.ref T.heap.size).category = 1 := rfl
  have hcellA : T1.heap[T.heap.size]? = some (freshCell cX kX) := by rw [← hT1]; exact State.heap_pushCell_size _ _
  have d3' : decode c.code (pc + 3) = .ok (.dup, 1) := by rw [hb]; exact d3
  obtain ⟨U, hsteps, hrun, hend, hW, hsame, ce, hce, hO⟩ := X₁.ctorThrow0 hexec htr (own := own) (cls := cls) (names := names) (ic := ic) hown' hcls hnames h (fun x hx => nomatch hx) hfX hkX hcellA (by rw [hhp, hT]; exact Nat.le_refl _)
    (g := { method := m, pc := pc + 4, locals := ls, stack := .ref T.heap.size :: .ref T.heap.size :: rest, locked := none }) rfl hsize rfl rfl (rest := rest) rfl
    (by rw [hb]; exact d4) (by rw [hb]; exact d7) hout hRframes (by simp only [List.map_cons, List.sum_cons, hcat]; omega) hlocks
  obtain ⟨f1, f2⟩ := vx_frame hsame
  rw [hhp] at f1 f2
  have hWs : s.WarmedH U.vm := State.WarmedH.trans hW0 hW
  have hcl : s.vm.findClass cls = some ce.cls := by
    have h9 := hO.cls
    rw [hvm] at h9
    exact h9
  have hall : s.sameButNew ({ U with vm := s.vm } : State) locs mc ms := by
    subst hA
    obtain ⟨e1, e2⟩ := hsame
    rw [State.setFrames_setFrames] at e1
    have h2 : (T.setVm s.vm).sameButNew ({ U with vm := s.vm } : State) [] (0 + 1) (0 + 6) := ⟨e1, e2⟩
    have h3 := X.same.trans h2
    rw [List.append_nil] at h3
    exact h3.mono hc hs
  refine ⟨U, ?_, .threw T.heap.size, hrun, hend, Or.inr ⟨T.heap.size, rfl, cls, ce, locs, hx U hWs.alike f1 (fun q hq => f2 q hq (fun z hz => nomatch hz)), hce, hO.vm, hcl, hWs, hall, hf⟩⟩
  refine st1 _ ?_
  show Steps p.tables e below (T1.setTop { method := m, pc := pc + 3, locals := ls, stack := .ref T.heap.size :: rest, locked := none }) _
  jvm_step X₁.here [X₁.here.top, hexec, d3', Value.category]
  exact hsteps
/-- 'throw new E("text")': new; dup; ldc; invokespecial; athrow -/
theorem vx_throwS {cc : ByteArray} {pc : Nat} (hexec : p.tables.exec = Jvm.exec) (hb : c.code = cc) (hl : l.stackTraces = false) {own cls text : String} {names : List String} {ik is ic mc ms sa : Nat} {A : Nat → Prop}
    (hown : s.vm.findClass own = some m.cls) (hcls : Bundle.fit cls = true) (hnames : ∀ n ∈ names, Bundle.fit n = true)
    (hk : (Cond.classLink own ik cls).before args s = true) (hini : (Cond.initialized cls).before args s = true) (hstr : vk_R own is text sa s) (hat : ∀ w ∈ vx_atS own ic cls names, w.before args s = true)
    (hgood : ∀ w ∈ Cond.classLink own ik cls :: Cond.initialized cls :: vx_atS own ic cls names, vx_ot w = true)
    (hU : vx_Zq Bundle.tN "UNASSIGNED_STACK" Bundle.steD A s s.heap) (hN : vx_Zq Bundle.tN "SUPPRESSED_SENTINEL" Bundle.listD A s s.heap) (hS : va_S A s.heap H locs) (hsize : ls.size = c.maxLocals)
    (d0 : decode cc pc = .ok (.new ik, 3)) (d3 : decode cc (pc + 3) = .ok (.dup, 1)) (d4 : decode cc (pc + 4) = .ok (.ldc is, 2)) (d6 : decode cc (pc + 6) = .ok (.invokespecial ic, 3)) (d9 : decode cc (pc + 9) = .ok (.athrow, 1))
    (hout : ∀ x ∈ c.exceptionTable.toList, covers x (pc + 9) = false)
    (hRframes : names.length + 3 < R.frames) (hRlocals : (rest.map fun v => v.category).sum + (13 * (names.length + 1) + 43) ≤ R.locals) (hRcells : cells + 1 ≤ R.cells) (hRslots : slots + 6 ≤ R.slots) (hlocks : meth.locks = false)
    (hx : ∀ t : State, s.vm.Alike t.vm → H.size ≤ t.heap.size → (∀ q : Nat, q < H.size → t.heap[q]? = H[q]?) → XC cls s t)
    (hf : ∀ z ∈ locs, free z.base) (hc : cells + 1 ≤ mc) (hs : slots + 6 ≤ ms) :
    W p l e R s m args below meth c H locs cells slots (vx_MQ below Qc XC args s mc ms free) (F0 m pc ls rest) := by
  intro T hT X
  have htr : e.platform.stackTraces = false := (show e.platform.stackTraces = l.stackTraces by rw [X.admits.platform]).trans hl
  have Y := vx_rebase X (R' := { frames := R.frames, locals := R.locals, cells := 1, slots := 6 }) (Nat.le_refl _) (Nat.le_refl _) hRcells hRslots
  obtain ⟨s', hA⟩ : ∃ z, z = (T.setVm s.vm).setFrames (.invoking m args :: below) := ⟨_, rfl⟩
  rw [← hA] at Y
  have hvm : s'.vm = s.vm := by rw [hA]; rfl
  have hhp : s'.heap = H := by rw [hA]; exact hT
  have hW0 : s.WarmedH s'.vm := by rw [hvm]; exact State.WarmedH.refl s
  have hat' : ∀ w ∈ vx_atS own ic cls names, w.before args s' = true := fun w hw => vx_ot_at hW0 hvm.symm (hgood w (List.mem_cons_of_mem _ (List.mem_cons_of_mem _ hw))) (hat w hw)
  have hk' : (Cond.classLink own ik cls).before args s' = true := vx_ot_at hW0 hvm.symm (hgood _ List.mem_cons_self) hk
  have hini' : (Cond.initialized cls).before args s' = true := vx_ot_at hW0 hvm.symm (hgood _ (List.mem_cons_of_mem _ List.mem_cons_self)) hini
  have hU' : vx_Zq Bundle.tN "UNASSIGNED_STACK" Bundle.steD A s' s'.heap := by rw [hhp]; exact vx_Zq.moved hW0.alike (hU.kept hS.2.1)
  have hN' : vx_Zq Bundle.tN "SUPPRESSED_SENTINEL" Bundle.listD A s' s'.heap := by rw [hhp]; exact vx_Zq.moved hW0.alike (hN.kept hS.2.1)
  have h : ∀ w ∈ Bundle.ownAtoms own ic cls names, w.before args s' = true := vx_own hat' (vx_isRefq hU'.1) (vx_isRefq hN'.1) hU'.2.word hN'.2.word
  have hown' : s'.vm.findClass own = some m.cls := by rw [hvm]; exact hown
  have hins : (Cond.instantiable cls 6).before args s' = true := h _ (by simp [Bundle.ownAtoms])
  obtain ⟨vm₁, cX, kX, hfX, hkX, -, -, X₁, st1⟩ := Y.newCold hexec (own := own) (C := cls) (index := ik) (n := 6) hown' hk' hins hini'
    (g := F0 m pc ls rest) rfl (by rw [hb]; exact d0) (Nat.le_refl _) (Nat.le_refl _)
  generalize hT1 : (T.setVm vm₁).pushCell { cls := cX, slots := kX.instanceTypes.map defaultValue, vm := .none } = T1 at X₁ st1
  have hcat : (Value.ref T.heap.size).category = 1 := rfl
  have hcellA : T1.heap[T.heap.size]? = some (freshCell cX kX) := by rw [← hT1]; exact State.heap_pushCell_size _ _
  have d3' : decode c.code (pc + 3) = .ok (.dup, 1) := by rw [hb]; exact d3
  have d4' : decode c.code (pc + 4) = .ok (.ldc is, 2) := by rw [hb]; exact d4
  have hstr' : vk_R own is text sa s' := vk_R.warm hW0 hstr
  obtain ⟨U, hsteps, hrun, hend, hW, hsame, ce, hce, hO⟩ := X₁.ctorThrowS hexec htr (own := own) (cls := cls) (names := names) (ic := ic) hown' hcls hnames h (fun x hx => nomatch hx) hfX hkX hcellA (by rw [hhp, hT]; exact Nat.le_refl _) (msg := .ref sa) rfl
    (g := { method := m, pc := pc + 6, locals := ls, stack := .ref sa :: .ref T.heap.size :: .ref T.heap.size :: rest, locked := none }) rfl hsize rfl rfl (rest := rest) rfl
    (by rw [hb]; exact d6) (by rw [hb]; exact d9) hout hRframes (by simp only [List.map_cons, List.sum_cons, hcat]; omega) hlocks
  obtain ⟨f1, f2⟩ := vx_frame hsame
  rw [hhp] at f1 f2
  have hWs : s.WarmedH U.vm := State.WarmedH.trans hW0 hW
  have hcl : s.vm.findClass cls = some ce.cls := by
    have h9 := hO.cls
    rw [hvm] at h9
    exact h9
  have hall : s.sameButNew ({ U with vm := s.vm } : State) locs mc ms := by
    subst hA
    obtain ⟨e1, e2⟩ := hsame
    rw [State.setFrames_setFrames] at e1
    have h2 : (T.setVm s.vm).sameButNew ({ U with vm := s.vm } : State) [] (0 + 1) (0 + 6) := ⟨e1, e2⟩
    have h3 := X.same.trans h2
    rw [List.append_nil] at h3
    exact h3.mono hc hs
  refine ⟨U, ?_, .threw T.heap.size, hrun, hend, Or.inr ⟨T.heap.size, rfl, cls, ce, locs, hx U hWs.alike f1 (fun q hq => f2 q hq (fun z hz => nomatch hz)), hce, hO.vm, hcl, hWs, hall, hf⟩⟩
  refine st1 _ ?_
  show Steps p.tables e below (T1.setTop { method := m, pc := pc + 3, locals := ls, stack := .ref T.heap.size :: rest, locked := none }) _
  jvm_step X₁.here [X₁.here.top, hexec, d3', Value.category]
  exact X₁.ldcString hexec (own := own) (text := text) (index := is) (a := sa) hown' hstr'.1 hstr'.2
    (g := { method := m, pc := pc + 4, locals := ls, stack := .ref T.heap.size :: .ref T.heap.size :: rest, locked := none }) rfl d4' _ hsteps
/-- 'throw new E("text")', the text by a wide index -/
theorem vx_throwSW {cc : ByteArray} {pc : Nat} (hexec : p.tables.exec = Jvm.exec) (hb : c.code = cc) (hl : l.stackTraces = false) {own cls text : String} {names : List String} {ik is ic mc ms sa : Nat} {A : Nat → Prop}
    (hown : s.vm.findClass own = some m.cls) (hcls : Bundle.fit cls = true) (hnames : ∀ n ∈ names, Bundle.fit n = true)
    (hk : (Cond.classLink own ik cls).before args s = true) (hini : (Cond.initialized cls).before args s = true) (hstr : vk_R own is text sa s) (hat : ∀ w ∈ vx_atS own ic cls names, w.before args s = true)
    (hgood : ∀ w ∈ Cond.classLink own ik cls :: Cond.initialized cls :: vx_atS own ic cls names, vx_ot w = true)
    (hU : vx_Zq Bundle.tN "UNASSIGNED_STACK" Bundle.steD A s s.heap) (hN : vx_Zq Bundle.tN "SUPPRESSED_SENTINEL" Bundle.listD A s s.heap) (hS : va_S A s.heap H locs) (hsize : ls.size = c.maxLocals)
    (d0 : decode cc pc = .ok (.new ik, 3)) (d3 : decode cc (pc + 3) = .ok (.dup, 1)) (d4 : decode cc (pc + 4) = .ok (.ldc_w is, 3)) (d7 : decode cc (pc + 7) = .ok (.invokespecial ic, 3)) (d10 : decode cc (pc + 10) = .ok (.athrow, 1))
    (hout : ∀ x ∈ c.exceptionTable.toList, covers x (pc + 10) = false)
    (hRframes : names.length + 3 < R.frames) (hRlocals : (rest.map fun v => v.category).sum + (13 * (names.length + 1) + 43) ≤ R.locals) (hRcells : cells + 1 ≤ R.cells) (hRslots : slots + 6 ≤ R.slots) (hlocks : meth.locks = false)
    (hx : ∀ t : State, s.vm.Alike t.vm → H.size ≤ t.heap.size → (∀ q : Nat, q < H.size → t.heap[q]? = H[q]?) → XC cls s t)
    (hf : ∀ z ∈ locs, free z.base) (hc : cells + 1 ≤ mc) (hs : slots + 6 ≤ ms) :
    W p l e R s m args below meth c H locs cells slots (vx_MQ below Qc XC args s mc ms free) (F0 m pc ls rest) := by
  intro T hT X
  have htr : e.platform.stackTraces = false := (show e.platform.stackTraces = l.stackTraces by rw [X.admits.platform]).trans hl
  have Y := vx_rebase X (R' := { frames := R.frames, locals := R.locals, cells := 1, slots := 6 }) (Nat.le_refl _) (Nat.le_refl _) hRcells hRslots
  obtain ⟨s', hA⟩ : ∃ z, z = (T.setVm s.vm).setFrames (.invoking m args :: below) := ⟨_, rfl⟩
  rw [← hA] at Y
  have hvm : s'.vm = s.vm := by rw [hA]; rfl
  have hhp : s'.heap = H := by rw [hA]; exact hT
  have hW0 : s.WarmedH s'.vm := by rw [hvm]; exact State.WarmedH.refl s
  have hat' : ∀ w ∈ vx_atS own ic cls names, w.before args s' = true := fun w hw => vx_ot_at hW0 hvm.symm (hgood w (List.mem_cons_of_mem _ (List.mem_cons_of_mem _ hw))) (hat w hw)
  have hk' : (Cond.classLink own ik cls).before args s' = true := vx_ot_at hW0 hvm.symm (hgood _ List.mem_cons_self) hk
  have hini' : (Cond.initialized cls).before args s' = true := vx_ot_at hW0 hvm.symm (hgood _ (List.mem_cons_of_mem _ List.mem_cons_self)) hini
  have hU' : vx_Zq Bundle.tN "UNASSIGNED_STACK" Bundle.steD A s' s'.heap := by rw [hhp]; exact vx_Zq.moved hW0.alike (hU.kept hS.2.1)
  have hN' : vx_Zq Bundle.tN "SUPPRESSED_SENTINEL" Bundle.listD A s' s'.heap := by rw [hhp]; exact vx_Zq.moved hW0.alike (hN.kept hS.2.1)
  have h : ∀ w ∈ Bundle.ownAtoms own ic cls names, w.before args s' = true := vx_own hat' (vx_isRefq hU'.1) (vx_isRefq hN'.1) hU'.2.word hN'.2.word
  have hown' : s'.vm.findClass own = some m.cls := by rw [hvm]; exact hown
  have hins : (Cond.instantiable cls 6).before args s' = true := h _ (by simp [Bundle.ownAtoms])
  obtain ⟨vm₁, cX, kX, hfX, hkX, -, -, X₁, st1⟩ := Y.newCold hexec (own := own) (C := cls) (index := ik) (n := 6) hown' hk' hins hini'
    (g := F0 m pc ls rest) rfl (by rw [hb]; exact d0) (Nat.le_refl _) (Nat.le_refl _)
  generalize hT1 : (T.setVm vm₁).pushCell { cls := cX, slots := kX.instanceTypes.map defaultValue, vm := .none } = T1 at X₁ st1
  have hcat : (Value.ref T.heap.size).category = 1 := rfl
  have hcellA : T1.heap[T.heap.size]? = some (freshCell cX kX) := by rw [← hT1]; exact State.heap_pushCell_size _ _
  have d3' : decode c.code (pc + 3) = .ok (.dup, 1) := by rw [hb]; exact d3
  have d4' : decode c.code (pc + 4) = .ok (.ldc_w is, 3) := by rw [hb]; exact d4
  have hstr' : vk_R own is text sa s' := vk_R.warm hW0 hstr
  obtain ⟨U, hsteps, hrun, hend, hW, hsame, ce, hce, hO⟩ := X₁.ctorThrowS hexec htr (own := own) (cls := cls) (names := names) (ic := ic) hown' hcls hnames h (fun x hx => nomatch hx) hfX hkX hcellA (by rw [hhp, hT]; exact Nat.le_refl _) (msg := .ref sa) rfl
    (g := { method := m, pc := pc + 7, locals := ls, stack := .ref sa :: .ref T.heap.size :: .ref T.heap.size :: rest, locked := none }) rfl hsize rfl rfl (rest := rest) rfl
    (by rw [hb]; exact d7) (by rw [hb]; exact d10) hout hRframes (by simp only [List.map_cons, List.sum_cons, hcat]; omega) hlocks
  obtain ⟨f1, f2⟩ := vx_frame hsame
  rw [hhp] at f1 f2
  have hWs : s.WarmedH U.vm := State.WarmedH.trans hW0 hW
  have hcl : s.vm.findClass cls = some ce.cls := by
    have h9 := hO.cls
    rw [hvm] at h9
    exact h9
  have hall : s.sameButNew ({ U with vm := s.vm } : State) locs mc ms := by
    subst hA
    obtain ⟨e1, e2⟩ := hsame
    rw [State.setFrames_setFrames] at e1
    have h2 : (T.setVm s.vm).sameButNew ({ U with vm := s.vm } : State) [] (0 + 1) (0 + 6) := ⟨e1, e2⟩
    have h3 := X.same.trans h2
    rw [List.append_nil] at h3
    exact h3.mono hc hs
  refine ⟨U, ?_, .threw T.heap.size, hrun, hend, Or.inr ⟨T.heap.size, rfl, cls, ce, locs, hx U hWs.alike f1 (fun q hq => f2 q hq (fun z hz => nomatch hz)), hce, hO.vm, hcl, hWs, hall, hf⟩⟩
  refine st1 _ ?_
  show Steps p.tables e below (T1.setTop { method := m, pc := pc + 3, locals := ls, stack := .ref T.heap.size :: rest, locked := none }) _
  jvm_step X₁.here [X₁.here.top, hexec, d3', Value.category]
  exact X₁.ldcStringW hexec (own := own) (text := text) (index := is) (a := sa) hown' hstr'.1 hstr'.2
    (g := { method := m, pc := pc + 4, locals := ls, stack := .ref T.heap.size :: .ref T.heap.size :: rest, locked := none }) rfl d4' _ hsteps
end Ends
section Bodies
variable {l : Launch}
theorem vx_ofW {y : MethodName} {ws ws' : List Cond} {rm : Room} {Pc : Array Value → State → Prop} {Qc : Array Value → State → Outcome → State → Prop} {XC : String → State → State → Prop} {mc ms : Nat} {free : Addr → Prop} {cc : ByteArray} {maxL : Nat} {ret : Option FieldType}
    (hy : plainName y.cls = true) (hw : ws = Cond.code y cc maxL ret :: ws')
    (body : ∀ p e s m args below meth c s₁, BodyLoose p l y (headSpec ws rm) cc maxL ret e s m args below meth c s₁ → c.maxLocals = maxL → (∀ x ∈ c.exceptionTable.toList, False) → Pc args s →
      W p l e (headSpec ws rm).room s m args below meth c s.heap [] 0 0 (vx_MQ below Qc XC args s mc ms free) (entryFrame m args maxL)) : vx_Met l y ws rm Pc Qc XC mc ms free := by
  refine MetFree.of_bodyS (code := cc) (maxLocals := maxL) (ret := ret) hy ?_ ?_
  · intro args s m h hn
    obtain ⟨meth, c, h1, h2, h3, h4, h5, h6, -, -⟩ := Cond.code_spec hn (atoms_spec (ws := ws) h _ (by rw [hw]; exact List.mem_cons_self))
    exact ⟨meth, c, h1, h2, h3, h4, h5, h6⟩
  · intro p e s m args below meth c s₁ B hml hP _
    have hh0 : s₁.heap = s.heap := by rw [B.state]; rfl
    have ht : ∀ x ∈ c.exceptionTable.toList, False := by
      obtain ⟨meth9, c9, h1, h2, -, -, -, -, h7, -⟩ := Cond.code_spec B.named (atoms_spec (ws := ws) B.pre _ (by rw [hw]; exact List.mem_cons_self))
      cases Option.some.inj (h1.symm.trans B.method)
      cases Option.some.inj (h2.symm.trans (Stand.of_body B).code)
      intro x hx
      rw [Array.isEmpty_iff.mp h7] at hx
      cases hx
    obtain ⟨t, a1, o, b1, b2, b3⟩ := body p e s m args below meth c s₁ B hml ht hP s₁ hh0 (Stand.of_body B)
    exact ⟨t, o, a1, b1, b2, b3⟩
/-- the table of a body with handlers -/
theorem vx_table {p : Program} {x y : MethodName} {S : Spec} {cc bytes : ByteArray} {maxL maxL' : Nat} {ret ret' : Option FieldType} {e : Env} {s s₁ : State} {m : MethodId} {args : Array Value} {below : List Frame} {meth : Method} {c : Code} {hh : List (Nat × Nat × Nat × Nat)}
    (B : BodyLoose p l y S cc maxL ret e s m args below meth c s₁) (h : (Cond.codeWith y bytes maxL' ret' hh).before args s = true) : c.exceptionTable.toList = tableOf hh := by
  obtain ⟨m9, meth9, c9, hn9, h1, h2, -, -, h6, -⟩ := Cond.codeWith_spec h
  cases Option.some.inj (hn9.symm.trans B.named)
  cases Option.some.inj (h1.symm.trans B.method)
  cases Option.some.inj (h2.symm.trans (Stand.of_body B).code)
  rw [← h6, table_eq]
end Bodies
end VXA
/-! ===== END ===== -/
/-! ===== BEGIN a static call of a method with an exception table ===== -/
section VXS
variable {p : Program} {l : Launch} {e : Env} {R : Room} {s : State} {m : MethodId} {args : Array Value} {below : List Frame} {meth : Method} {c : Code} {T : State} {H : Heap} {locs : List Loc} {cells slots : Nat}
abbrev vx_CSW (R : Room) (s : State) (args : Array Value) (own : String) (index : Nat) (y : MethodName) (bytes : ByteArray) (maxL : Nat) (ret : Option FieldType) (hh : List (Nat × Nat × Nat × Nat)) (ws : List Cond) (rm : Room) (mc ms n : Nat) : Prop :=
  (rm.cells = mc ∧ rm.slots = ms ∧ rm.frames + 1 ≤ R.frames ∧ 8 + (maxL + 11) + rm.locals ≤ R.locals ∧ (∀ w ∈ ws, ∀ (a' : Array Value) (U : State), s.WarmedH U.vm → w.before a' U = true) ∧ Cond.codeWith y bytes maxL ret hh ∈ ws) ∧
  (Cond.codeWith y bytes maxL ret hh).before args s = true ∧ (Cond.initialized y.cls).before args s = true ∧ (y.cls ≠ "java/lang/invoke/MethodHandle" ∧ y.cls ≠ "java/lang/invoke/VarHandle") ∧
  (∀ sig, parseMethodDescriptor y.desc = some sig → n = sig.parameters.length) ∧ (Cond.methodLink own index y).before args s = true ∧ (Cond.static y).before args s = true
theorem vx_cwSW {own : String} {index maxL mc ms : Nat} {y : MethodName} {bytes : ByteArray} {ret : Option FieldType} {hh : List (Nat × Nat × Nat × Nat)} {Ts ws ws' : List Cond} {rm : Room} (n : Nat) (ht : ∀ w ∈ Ts, w.before args s = true) (hT : GoodIn Ts (va_wsS own index y ws)) (hw : ws = Cond.codeWith y bytes maxL ret hh :: ws') (hrc : rm.cells = mc) (hrs : rm.slots = ms)
    (hd : y.cls ≠ "java/lang/invoke/MethodHandle" ∧ y.cls ≠ "java/lang/invoke/VarHandle" ∧ (parseMethodDescriptor y.desc).map (fun d => d.parameters.length) = some n) (hR : rm.frames + 1 ≤ R.frames ∧ 8 + (maxL + 11) + rm.locals ≤ R.locals) :
    vx_CSW R s args own index y bytes maxL ret hh ws rm mc ms n := by
  have ok : ∀ w ∈ va_wsS own index y ws, w.before args s = true := fun w h => ht w (hT w h).1
  have hG : GoodIn Ts ws := fun w h => hT w (by unfold va_wsS; exact List.mem_append_right _ h)
  have hc : Cond.codeWith y bytes maxL ret hh ∈ ws := by rw [hw]; exact List.mem_cons_self
  refine ⟨⟨hrc, hrs, hR.1, hR.2, pay_in ht hG, hc⟩, ht _ (hG _ hc).1, ok _ (by simp [va_wsS]), ⟨hd.1, hd.2.1⟩, fun sig h => ?_, ok _ (by simp [va_wsS]), ok _ (by simp [va_wsS])⟩
  have h2 := hd.2.2
  rw [h] at h2
  exact (Option.some.inj h2).symm
theorem vx_callSW (X : Stand p l e R s m args below meth c T locs cells slots) (hexec : p.tables.exec = Jvm.exec) {own : String} {index : Nat} {y : MethodName} {bytes : ByteArray} {maxL : Nat} {ret : Option FieldType} {hh : List (Nat × Nat × Nat × Nat)}
    (hown : s.vm.findClass own = some m.cls) (hlink : (Cond.methodLink own index y).before args s = true) (hstat : (Cond.static y).before args s = true) (hinit : (Cond.initialized y.cls).before args s = true)
    (hcode : (Cond.codeWith y bytes maxL ret hh).before args s = true) (hy : y.cls ≠ "java/lang/invoke/MethodHandle" ∧ y.cls ≠ "java/lang/invoke/VarHandle")
    {W9 : Nat} {Pre : Pt → Array Value → Prop} {Post : Pt → Array Value → Option Value → Pt → Prop} (hK : Back l R p e below s args y 3 W9 Pre Post)
    {g : JFrame} (hg : g.method = m) (hsize : g.locals.size = c.maxLocals) {argsL rest : List Value} (hlen : ∀ sig, parseMethodDescriptor y.desc = some sig → argsL.length = sig.parameters.length)
    (hstack : g.stack = argsL.reverse ++ rest) (hW : 2 * g.monitorRoom + (rest.map fun v => v.category).sum ≤ W9) (hdg : decode c.code g.pc = .ok (.invokestatic index, 3))
    (hpre : ∀ vm₁, s.WarmedH vm₁ → Pre ⟨T.setVm vm₁, locs, cells, slots⟩ argsL.toArray) :
    ∃ (v : Option Value) (vm₁ : Vm) (B : Pt), s.WarmedH vm₁ ∧ Stand p l e R s m args below meth c B.U B.locs B.cells B.slots ∧ Post ⟨T.setVm vm₁, locs, cells, slots⟩ argsL.toArray v B ∧
      ∀ target, Steps p.tables e below (B.U.setTop { g with pc := g.pc + 3, stack := v.toList ++ rest }) target → Steps p.tables e below (T.setTop g) target := by
  obtain ⟨mk, methM, cM, hnamed, hmethM, -, -, -, -, -, -, hsigM⟩ := Cond.codeWith_spec hcode
  have hstatic : methM.isStatic = true := Cond.static_spec hnamed hmethM hstat
  obtain ⟨kP, hkP, -⟩ := className_of_methodNamed hnamed
  have hinitP : kP.init = .initialized := Cond.initialized_spec (findClass_of_methodNamed hnamed) hkP hinit
  obtain ⟨vm₁, X₁, hstep₁⟩ := X.invokestatic hexec hown hlink hnamed hmethM hstatic hkP hinitP hy (g := g) hg (argsL := argsL) (rest := rest) (hlen _ hsigM) hstack hdg
  obtain ⟨v, B, X', hpost, hsteps⟩ := hK m meth c ⟨T.setVm vm₁, locs, cells, slots⟩ { g with stack := rest } (.invokestatic index) mk argsL.toArray X₁ hg hsize hdg hW (X₁.named hnamed) (hpre vm₁ X₁.warmed)
  exact ⟨v, vm₁, B, X₁.warmed, X', hpost, fun target h => hstep₁ _ fun acts => by rw [doInvoke_state]; exact hsteps.trans h⟩
theorem vx_runSW {y : MethodName} {bytes cc : ByteArray} {maxL nL mc ms n index : Nat} {ret : Option FieldType} {hh : List (Nat × Nat × Nat × Nat)} {ws : List Cond} {rm : Room} {Pc : Array Value → State → Prop} {Qc : Array Value → State → Outcome → State → Prop} {free : Addr → Prop} {Ts : List Cond} {own : String} {As rest : List Value} {g : JFrame}
    (S : CallFix p m c cc nL s args Ts own) (hM : Met l y ws rm Pc Qc mc ms free) (cw : vx_CSW R s args own index y bytes maxL ret hh ws rm mc ms n) (hp : PreS s H Pc As)
    (hg : g.method = m) (hn : As.length = n) (hsize : g.locals.size = nL) (hstack : g.stack = As.reverse ++ rest) (hW : 2 * g.monitorRoom + (rest.map fun v => v.category).sum ≤ 8) (hdg : decode cc g.pc = .ok (.invokestatic index, 3)) (hf : cells + mc ≤ R.cells ∧ slots + ms ≤ R.slots) :
    va_Run p l e R s m args below meth c H locs cells slots mc ms g rest (Qc As.toArray) (free) := by
  obtain ⟨⟨hrc, hrs, hfr, hlo, hws, hcw⟩, hcode, hini, hy, hlen, hl, hstt⟩ := cw
  have hK : Back l R p e below s args y 3 8 (PreOf R mc ms Pc) (PostOf Qc mc ms free) := va_backW (hh := hh) (bytes := bytes) (maxL := maxL) (ret := ret) hM hp.1 hrc hrs hfr hlo hws hcw (fun a' U hW => word_at hW (Or.inl (by first | rfl | simp [Cond.onTables, Cond.keeps, Cond.steady])) hini)
  obtain ⟨hx, hb, hml, ho, -⟩ := S
  intro T hT X
  obtain ⟨v, vm₁, ⟨U', l2, c2, s2⟩, hW₁, X', ⟨g', mk, t, L, e1, e2, hq, h1, hL, h2, h3⟩, st⟩ := vx_callSW X hx (hh := hh) (bytes := bytes) (maxL := maxL) (ret := ret) ho hl hstt hini hcode hy hK hg (hsize.trans hml.symm) (argsL := As) (rest := rest) (fun sig h => hn.trans (hlen sig h)) hstack hW (by rw [hb]; exact hdg)
    (fun vm₁ hW₁ => ⟨hf.1, hf.2, hp.2 (T.setVm vm₁) hT hW₁⟩)
  dsimp only [Pt.U, Pt.locs, Pt.cells, Pt.slots] at X' e1 e2 h1 h2 h3 st
  subst h1; subst h2; subst h3
  exact ⟨v, (T.setVm vm₁).calling g' mk As.toArray, t, U', L, hT, X', hL, e1, e2, hq, st⟩
/-- not caught here, past rows that name other classes: it goes on to the caller -/
theorem vx_outP {p : Program} {l : Launch} {e : Env} {R : Room} {s : State} {m : MethodId} {args : Array Value} {below : List Frame} {meth : Method} {c : Code} {H : Heap} {locs : List Loc} {cells slots : Nat} {free : Addr → Prop} {ls : Array Slot} {rest : List Value} {Qc : Array Value → State → Outcome → State → Prop} {XC : String → State → State → Prop}
    {pc : Nat} {own E : String} {ce : Cell} {q : Addr} {mc ms : Nat} (hown : s.vm.findClass own = some m.cls) (hlocks : meth.locks = false)
    (hpass : ∀ z ∈ c.exceptionTable.toList, covers z pc = false ∨ (z.catchType ≠ 0 ∧ ∃ nm : String, (Cond.classLink own z.catchType nm).before args s = true ∧ va_Nc E nm s)) (hcell : H[q]? = some ce) (hv : ce.vm = .none) (hcl : s.vm.findClass E = some ce.cls)
    (hx : ∀ t : State, t.heap = H → s.vm.Alike t.vm → XC E s t) (hf : ∀ z ∈ locs, free z.base) (hc : cells ≤ mc) (hs : slots ≤ ms) :
    vx_W p l e R s m args below meth c H locs cells slots (vx_MQ below Qc XC args s mc ms free) (F0 m pc ls rest) q := by
  intro T hT X
  have hpl : e.platform.magicAccessors = ({} : Platform).magicAccessors := by rw [X.admits.platform]
  obtain ⟨vm', hW', X', st⟩ := X.outThrough hlocks q (g := F0 m pc ls rest) rfl rfl rfl (cell := ce) (by rw [hT]; exact hcell) (by rw [hv]; rfl)
    (by obtain ⟨k9, h9, -⟩ := Vm.findClass_spec hcl; exact ⟨k9, h9⟩) (fun z hz => by
      rcases hpass z hz with h | ⟨hz0, nm, hl1, hn1⟩
      · exact Or.inl h
      · obtain ⟨c6, hc6, hcl6⟩ := Cond.classLink_spec hown hl1 e.platform hpl
        obtain ⟨a8, b8, h1, h2, h3⟩ := hn1
        cases Option.some.inj (h1.symm.trans hcl)
        cases Option.some.inj (h2.symm.trans hc6)
        exact Or.inr ⟨hz0, _, hcl6, h3⟩)
  obtain ⟨g₀, hfr⟩ := X'.frames_eq
  have hcell9 : ((T.setVm vm').setFrames (.throwing q :: below)).heap[q]? = some ce := by
    show T.heap[q]? = some ce
    rw [hT]; exact hcell
  have hend : Ended ((T.setVm vm').setFrames (.throwing q :: below)) below (.threw q) := State.frames_setFrames _ (State.cur_lt_of_frames hfr)
  refine ⟨(T.setVm vm').setFrames (.throwing q :: below), ?_, .threw q, X'.here.running, hend, Or.inr ⟨q, rfl, E, ce, locs, hx _ hT (X'.ends _).1.alike, hcell9, hv, hcl, (X'.ends _).1, (X'.ends _).2.mono hc hs, hf⟩⟩
  rw [X.pushThrowing_eq]
  exact st
/-- a thing of a world lies in the heap -/
theorem vx_lt {D : va_G} {cl : List vw_C} {ws : va_W} {H1 : Heap} (h : va_P D cl ws H1) {k : Nat} {q : Nat × va_E} (hk : ws[k]? = some q) : q.1 < H1.size := (h k q hk).lt
end VXS
/-! ===== END ===== -/
/-! ===== BEGIN methods with a table of their own: called by a name, returning or throwing ===== -/
section VXH
/-! vx_backW, vx_callVX, vx_callSX, vx_callVW, vx_runVW, vx_runVX, vx_runSX, vx_ofWH follow the same proofs as their sisters above (Free/Laws.lean, Shelf42/LK1.lean); vx_outP calls Shelf42/NT130.lean (outThrough). -/
section
variable {l : Launch} {R : Room} {p : Program} {e : Env} {below : List Frame} {s : State} {sargs : Array Value} {y : MethodName} {len W9 : Nat}
theorem vx_backW {ws : List Cond} {rm : Room} {Pc : Array Value → State → Prop} {Qc : Array Value → State → Outcome → State → Prop} {XC : String → State → State → Prop} {mc ms : Nat} {free : Addr → Prop} {bytes : ByteArray} {maxL : Nat} {ret : Option FieldType} {hh : List (Nat × Nat × Nat × Nat)}
    (hM : vx_Met l y ws rm Pc Qc XC mc ms free) (hblind : FrameBlind Pc) (hrc : rm.cells = mc) (hrs : rm.slots = ms)
    (hframes : rm.frames + 1 ≤ R.frames) (hlocals : W9 + (maxL + 11) + rm.locals ≤ R.locals)
    (hws : ∀ w ∈ ws, ∀ a' U, s.WarmedH U.vm → w.before a' U = true) (hcode : Cond.codeWith y bytes maxL ret hh ∈ ws) (hinit : ∀ a' U, s.WarmedH U.vm → (Cond.initialized y.cls).before a' U = true) :
    vx_Back l R p e below s sargs y len W9 (PreOf R mc ms Pc) (PostOf Qc mc ms free) (vx_Post XC mc ms free) := by
  intro m meth c A g ig mk a X hg hsize hdg hW hn hp
  have h1 : (headSpec ws rm).pre.before a A.U = true := atoms_intro fun w hw => hws w hw _ _ X.warmed
  have h2 : (Cond.codeWith y bytes maxL ret hh).before a A.U = true := hws _ hcode _ _ X.warmed
  have h3 : (Cond.initialized y.cls).before a A.U = true := hinit _ _ X.warmed
  have h4 : A.cells + (headSpec ws rm).room.cells ≤ R.cells := by rw [show (headSpec ws rm).room.cells = mc from hrc]; exact hp.1
  have h5 : A.slots + (headSpec ws rm).room.slots ≤ R.slots := by rw [show (headSpec ws rm).room.slots = ms from hrs]; exact hp.2.1
  have hPc : Pc a (A.U.calling g mk a) := hblind _ _ _ _ hp.2.2
  obtain ⟨U, Ls, c0, s0⟩ := A
  dsimp only [Pt.U, Pt.locs, Pt.cells, Pt.slots] at h1 h2 h3 h4 h5 X hn hPc ⊢
  obtain ⟨m9, methY, cY, hn9, hmY, hcY, -, hlY, -⟩ := Cond.codeWith_spec h2
  cases Option.some.inj (hn9.symm.trans hn)
  obtain ⟨kY, hkY, -⟩ := className_of_methodNamed hn
  have hinitY : kY.init = .initialized := Cond.initialized_spec (findClass_of_methodNamed hn) hkY h3
  have h : At U g.method c below := by rw [hg]; exact X.here
  have hlocals9 : W9 + (maxL + 11) + (headSpec ws rm).room.locals ≤ R.locals := hlocals
  have happ : (headSpec ws rm).appliesLoose y e.platform (U.calling g mk a) = true :=
    Spec.appliesLoose_calling (g := g) h hdg hn hkY hinitY
      (X.room_calling (g := g) (R' := (headSpec ws rm).room) hsize hmY hcY hframes (by rw [hlY]; omega) h4 h5) h1
  obtain ⟨mid, hmid⟩ := h.above
  have hfr : (U.setTop g).frames = (.java g :: mid) ++ below := by rw [State.frames_setTop' g h.top, hmid]; rfl
  obtain ⟨o, s₂, hsteps, -, hend, hq⟩ := Steps.callFree hM p X.admits X.cas X.clock (acts := []) hfr happ hPc trivial
  have hq' : vx_Q Qc XC mc ms free a (U.calling g mk a) o s₂ := hq
  rw [State.frames_setTop' g h.top] at hend
  obtain ⟨g₀, hg0⟩ := Option.isSome_iff_exists.mp h.top
  obtain ⟨r, hr⟩ := State.topJava?_eq_some.mp hg0
  have hr' : (({ U with heap := s₂.heap, slotsUsed := s₂.slotsUsed } : State).setVm s₂.vm).frames = .java g₀ :: r := hr
  rcases hq' with ⟨hqc, L, hfe, hL⟩ | ⟨q, rfl, E, ce, L, hx, hce, hcv, hcl, hW₂, hsm, hL⟩
  · obtain ⟨⟨v, rfl⟩, hW₂, e2, q2, q3, q4, q5, q6⟩ := id hfe
    have e3 : s₂ = ({ (U.calling g mk a).setFrames s₂.frames with heap := s₂.heap, slotsUsed := s₂.slotsUsed } : State).setVm s₂.vm := by
      have : s₂ = ({ s₂ with vm := (U.calling g mk a).vm } : State).setVm s₂.vm := rfl
      rw [e2] at this
      exact this
    obtain ⟨c₂, i₂, len₂, hc₂, hd₂, hf₂⟩ := hend
    have hW' : U.WarmedH s₂.vm := hW₂
    have hcc : c₂ = c := by
      have h1 : s₂.code? g.method = U.code? g.method := by
        rw [State.code?_eq, State.code?_eq, hW'.alike.method?]
      exact Option.some.inj (hc₂.symm.trans (h1.trans h.code))
    subst hcc
    have hlen : len₂ = len := by rw [hdg] at hd₂; cases hd₂; rfl
    subst hlen
    have hs₂ : s₂ = (({ U with heap := s₂.heap, slotsUsed := s₂.slotsUsed } : State).setVm s₂.vm).setTop { g with pc := g.pc + len₂, stack := v.toList ++ g.stack } := by
      refine e3.trans ?_
      rw [hf₂, State.calling_eq h.top, State.setFrames_setFrames, State.setTop_of_frames _ hr', hr]
      rfl
    have hsame : U.sameButNew ({ U with heap := s₂.heap, slotsUsed := s₂.slotsUsed } : State) L mc ms := by
      refine ⟨?_, q2, q3, q4, q5, q6⟩
      obtain ⟨t, ht, -⟩ := State.frames_cons hr
      show ({ U with heap := s₂.heap, slotsUsed := s₂.slotsUsed } : State) = { U.setFrames U.frames with heap := s₂.heap, slotsUsed := s₂.slotsUsed }
      rw [State.setFrames_self ht]
    subst hg
    refine Or.inl ⟨v, ⟨(({ U with heap := s₂.heap, slotsUsed := s₂.slotsUsed } : State).setVm s₂.vm), Ls ++ L, c0 + mc, s0 + ms⟩,
      ⟨X.admits, X.cas, X.clock, X.frames, X.room, X.hears, X.method, X.code, (X.here.setHeapUsed s₂.heap s₂.slotsUsed).setVm hW'.alike, X.tail, State.WarmedH.trans X.warmed hW', X.limits, X.bytes, X.same.trans (hsame.setVm s.vm)⟩,
      ⟨g, mk, s₂, L, rfl, rfl, hqc, rfl, hL, rfl, rfl⟩, ?_⟩
    show Steps p.tables e below _ ((({ U with heap := s₂.heap, slotsUsed := s₂.slotsUsed } : State).setVm s₂.vm).setTop { g with pc := g.pc + len₂, stack := v.toList ++ g.stack })
    rw [← hs₂]
    exact hsteps
  · obtain ⟨e2, q2, q3, q4, q5, q6⟩ := id hsm
    have e3 : s₂ = ({ (U.calling g mk a).setFrames s₂.frames with heap := s₂.heap, slotsUsed := s₂.slotsUsed } : State).setVm s₂.vm := by
      have : s₂ = ({ s₂ with vm := (U.calling g mk a).vm } : State).setVm s₂.vm := rfl
      rw [e2] at this
      exact this
    have hf₂ : s₂.frames = .throwing q :: .java g :: U.frames.tail := hend
    have hW' : U.WarmedH s₂.vm := hW₂
    have hs₂ : s₂ = ((({ U with heap := s₂.heap, slotsUsed := s₂.slotsUsed } : State).setVm s₂.vm).setTop g).pushFrame (.throwing q) := by
      refine e3.trans ?_
      rw [hf₂, State.calling_eq h.top, State.setFrames_setFrames, State.pushFrame, State.frames_setTop _ hr', State.setTop_of_frames _ hr', State.setFrames_setFrames, hr]
      rfl
    have hsame : U.sameButNew ({ U with heap := s₂.heap, slotsUsed := s₂.slotsUsed } : State) L mc ms := by
      refine ⟨?_, q2, q3, q4, q5, q6⟩
      obtain ⟨t, ht, -⟩ := State.frames_cons hr
      show ({ U with heap := s₂.heap, slotsUsed := s₂.slotsUsed } : State) = { U.setFrames U.frames with heap := s₂.heap, slotsUsed := s₂.slotsUsed }
      rw [State.setFrames_self ht]
    subst hg
    refine Or.inr ⟨q, ⟨(({ U with heap := s₂.heap, slotsUsed := s₂.slotsUsed } : State).setVm s₂.vm), Ls ++ L, c0 + mc, s0 + ms⟩,
      ⟨X.admits, X.cas, X.clock, X.frames, X.room, X.hears, X.method, X.code, (X.here.setHeapUsed s₂.heap s₂.slotsUsed).setVm hW'.alike, X.tail, State.WarmedH.trans X.warmed hW', X.limits, X.bytes, X.same.trans (hsame.setVm s.vm)⟩,
      ⟨g, mk, s₂, L, E, ce, rfl, rfl, hx, hce, hcv, hcl, rfl, hL, rfl, rfl⟩, ?_⟩
    show Steps p.tables e below _ (((({ U with heap := s₂.heap, slotsUsed := s₂.slotsUsed } : State).setVm s₂.vm).setTop g).pushFrame (.throwing q))
    rw [← hs₂]
    exact hsteps
end
variable {p : Program} {l : Launch} {e : Env} {R : Room} {s : State} {m : MethodId} {args : Array Value} {below : List Frame} {meth : Method} {c : Code} {T : State} {H : Heap} {locs : List Loc} {cells slots : Nat}
theorem vx_callVX (X : Stand p l e R s m args below meth c T locs cells slots) (hexec : p.tables.exec = Jvm.exec) {own C : String} {index : Nat} {y : MethodName} {bytes : ByteArray} {maxL : Nat} {ret : Option FieldType} {hh : List (Nat × Nat × Nat × Nat)}
    (hown : s.vm.findClass own = some m.cls) (hlink : (Cond.methodLink own index y).before args s = true) (hinst : (Cond.instanceMethod y).before args s = true) (hsel : (Cond.selects C y y).before args s = true)
    (hcode : (Cond.codeWith y bytes maxL ret hh).before args s = true) (hy : y.cls ≠ "java/lang/invoke/MethodHandle" ∧ y.cls ≠ "java/lang/invoke/VarHandle")
    {W9 : Nat} {Pre : Pt → Array Value → Prop} {Post : Pt → Array Value → Option Value → Pt → Prop} {PostX : Pt → Array Value → Addr → Pt → Prop} (hK : vx_Back l R p e below s args y 3 W9 Pre Post PostX)
    {b : Addr} {cellB : Cell} (hcell : T.heap[b]? = some cellB) (hobj : cellB.vm.isStatics = false) (hcls : s.vm.findClass C = some cellB.cls)
    {g : JFrame} (hg : g.method = m) (hsize : g.locals.size = c.maxLocals) {argsL rest : List Value} (hlen : ∀ sig, parseMethodDescriptor y.desc = some sig → argsL.length = sig.parameters.length)
    (hstack : g.stack = argsL.reverse ++ .ref b :: rest) (hW : 2 * g.monitorRoom + (rest.map fun v => v.category).sum ≤ W9) (hdg : decode c.code g.pc = .ok (.invokevirtual index, 3))
    (hpre : ∀ vm₁, s.WarmedH vm₁ → Pre ⟨T.setVm vm₁, locs, cells, slots⟩ (Value.ref b :: argsL).toArray) :
    (∃ (v : Option Value) (vm₁ : Vm) (B : Pt), s.WarmedH vm₁ ∧ Stand p l e R s m args below meth c B.U B.locs B.cells B.slots ∧ Post ⟨T.setVm vm₁, locs, cells, slots⟩ (Value.ref b :: argsL).toArray v B ∧
      ∀ target, Steps p.tables e below (B.U.setTop { g with pc := g.pc + 3, stack := v.toList ++ rest }) target → Steps p.tables e below (T.setTop g) target) ∨
    (∃ (q : Addr) (vm₁ : Vm) (B : Pt), s.WarmedH vm₁ ∧ Stand p l e R s m args below meth c B.U B.locs B.cells B.slots ∧ PostX ⟨T.setVm vm₁, locs, cells, slots⟩ (Value.ref b :: argsL).toArray q B ∧
      Steps p.tables e below (T.setTop g) ((B.U.setTop { g with stack := rest }).pushFrame (.throwing q))) := by
  obtain ⟨mk, methM, hnamed, hmethM, hstM, habM⟩ := Cond.instanceMethod_spec hinst
  obtain ⟨m8, methM', cM, hn8, hmethM', -, -, -, -, -, -, hsigM⟩ := Cond.codeWith_spec hcode
  cases Option.some.inj (hn8.symm.trans hnamed)
  cases hmethM.symm.trans hmethM'
  obtain ⟨c2, r2, m2, q1, q2, q3, q4, kP, hkP, hkPi⟩ := Cond.selects_spec hsel
  cases hcls.symm.trans q1
  cases (State.methodFound?_of_named hnamed hy).symm.trans q2
  cases hnamed.symm.trans q3
  have hselP : selectMethod e.platform s.vm cellB.cls mk = .method mk := by rw [Launch.admits_selectMethod X.admits]; exact q4
  obtain ⟨vm₁, X₁, hstep₁⟩ := X.invokevirtual hexec hown hlink hnamed hmethM hstM hkP hkPi hy (a := b) (cell := cellB) hcell
    (fun z h => by rw [h] at hobj; cases hobj) hselP hmethM habM hkP hkPi (g := g) hg (argsL := argsL) (rest := rest) (hlen _ hsigM) hstack hdg
  rcases hK m meth c ⟨T.setVm vm₁, locs, cells, slots⟩ { g with stack := rest } (.invokevirtual index) mk (Value.ref b :: argsL).toArray X₁ hg hsize hdg hW (X₁.named hnamed) (hpre vm₁ X₁.warmed) with ⟨v, B, X', hpost, hsteps⟩ | ⟨q, B, X', hpost, hsteps⟩
  · exact Or.inl ⟨v, vm₁, B, X₁.warmed, X', hpost, fun target h => hstep₁ _ fun acts => by rw [doInvoke_state]; exact hsteps.trans h⟩
  · exact Or.inr ⟨q, vm₁, B, X₁.warmed, X', hpost, hstep₁ _ fun acts => by rw [doInvoke_state]; exact hsteps⟩
theorem vx_callSX (X : Stand p l e R s m args below meth c T locs cells slots) (hexec : p.tables.exec = Jvm.exec) {own : String} {index : Nat} {y : MethodName} {bytes : ByteArray} {maxL : Nat} {ret : Option FieldType} {hh : List (Nat × Nat × Nat × Nat)}
    (hown : s.vm.findClass own = some m.cls) (hlink : (Cond.methodLink own index y).before args s = true) (hstat : (Cond.static y).before args s = true) (hinit : (Cond.initialized y.cls).before args s = true)
    (hcode : (Cond.codeWith y bytes maxL ret hh).before args s = true) (hy : y.cls ≠ "java/lang/invoke/MethodHandle" ∧ y.cls ≠ "java/lang/invoke/VarHandle")
    {W9 : Nat} {Pre : Pt → Array Value → Prop} {Post : Pt → Array Value → Option Value → Pt → Prop} {PostX : Pt → Array Value → Addr → Pt → Prop} (hK : vx_Back l R p e below s args y 3 W9 Pre Post PostX)
    {g : JFrame} (hg : g.method = m) (hsize : g.locals.size = c.maxLocals) {argsL rest : List Value} (hlen : ∀ sig, parseMethodDescriptor y.desc = some sig → argsL.length = sig.parameters.length)
    (hstack : g.stack = argsL.reverse ++ rest) (hW : 2 * g.monitorRoom + (rest.map fun v => v.category).sum ≤ W9) (hdg : decode c.code g.pc = .ok (.invokestatic index, 3))
    (hpre : ∀ vm₁, s.WarmedH vm₁ → Pre ⟨T.setVm vm₁, locs, cells, slots⟩ argsL.toArray) :
    (∃ (v : Option Value) (vm₁ : Vm) (B : Pt), s.WarmedH vm₁ ∧ Stand p l e R s m args below meth c B.U B.locs B.cells B.slots ∧ Post ⟨T.setVm vm₁, locs, cells, slots⟩ argsL.toArray v B ∧
      ∀ target, Steps p.tables e below (B.U.setTop { g with pc := g.pc + 3, stack := v.toList ++ rest }) target → Steps p.tables e below (T.setTop g) target) ∨
    (∃ (q : Addr) (vm₁ : Vm) (B : Pt), s.WarmedH vm₁ ∧ Stand p l e R s m args below meth c B.U B.locs B.cells B.slots ∧ PostX ⟨T.setVm vm₁, locs, cells, slots⟩ argsL.toArray q B ∧
      Steps p.tables e below (T.setTop g) ((B.U.setTop { g with stack := rest }).pushFrame (.throwing q))) := by
  obtain ⟨mk, methM, cM, hnamed, hmethM, -, -, -, -, -, -, hsigM⟩ := Cond.codeWith_spec hcode
  have hstatic : methM.isStatic = true := Cond.static_spec hnamed hmethM hstat
  obtain ⟨kP, hkP, -⟩ := className_of_methodNamed hnamed
  have hinitP : kP.init = .initialized := Cond.initialized_spec (findClass_of_methodNamed hnamed) hkP hinit
  obtain ⟨vm₁, X₁, hstep₁⟩ := X.invokestatic hexec hown hlink hnamed hmethM hstatic hkP hinitP hy (g := g) hg (argsL := argsL) (rest := rest) (hlen _ hsigM) hstack hdg
  rcases hK m meth c ⟨T.setVm vm₁, locs, cells, slots⟩ { g with stack := rest } (.invokestatic index) mk argsL.toArray X₁ hg hsize hdg hW (X₁.named hnamed) (hpre vm₁ X₁.warmed) with ⟨v, B, X', hpost, hsteps⟩ | ⟨q, B, X', hpost, hsteps⟩
  · exact Or.inl ⟨v, vm₁, B, X₁.warmed, X', hpost, fun target h => hstep₁ _ fun acts => by rw [doInvoke_state]; exact hsteps.trans h⟩
  · exact Or.inr ⟨q, vm₁, B, X₁.warmed, X', hpost, hstep₁ _ fun acts => by rw [doInvoke_state]; exact hsteps⟩
theorem vx_callVW (X : Stand p l e R s m args below meth c T locs cells slots) (hexec : p.tables.exec = Jvm.exec) {own C : String} {index : Nat} {y : MethodName} {bytes : ByteArray} {maxL : Nat} {ret : Option FieldType} {hh : List (Nat × Nat × Nat × Nat)}
    (hown : s.vm.findClass own = some m.cls) (hlink : (Cond.methodLink own index y).before args s = true) (hinst : (Cond.instanceMethod y).before args s = true) (hsel : (Cond.selects C y y).before args s = true)
    (hcode : (Cond.codeWith y bytes maxL ret hh).before args s = true) (hy : y.cls ≠ "java/lang/invoke/MethodHandle" ∧ y.cls ≠ "java/lang/invoke/VarHandle")
    {W9 : Nat} {Pre : Pt → Array Value → Prop} {Post : Pt → Array Value → Option Value → Pt → Prop} (hK : Back l R p e below s args y 3 W9 Pre Post)
    {b : Addr} {cellB : Cell} (hcell : T.heap[b]? = some cellB) (hobj : cellB.vm.isStatics = false) (hcls : s.vm.findClass C = some cellB.cls)
    {g : JFrame} (hg : g.method = m) (hsize : g.locals.size = c.maxLocals) {argsL rest : List Value} (hlen : ∀ sig, parseMethodDescriptor y.desc = some sig → argsL.length = sig.parameters.length)
    (hstack : g.stack = argsL.reverse ++ .ref b :: rest) (hW : 2 * g.monitorRoom + (rest.map fun v => v.category).sum ≤ W9) (hdg : decode c.code g.pc = .ok (.invokevirtual index, 3))
    (hpre : ∀ vm₁, s.WarmedH vm₁ → Pre ⟨T.setVm vm₁, locs, cells, slots⟩ (Value.ref b :: argsL).toArray) :
    ∃ (v : Option Value) (vm₁ : Vm) (B : Pt), s.WarmedH vm₁ ∧ Stand p l e R s m args below meth c B.U B.locs B.cells B.slots ∧ Post ⟨T.setVm vm₁, locs, cells, slots⟩ (Value.ref b :: argsL).toArray v B ∧
      ∀ target, Steps p.tables e below (B.U.setTop { g with pc := g.pc + 3, stack := v.toList ++ rest }) target → Steps p.tables e below (T.setTop g) target := by
  obtain ⟨mk, methM, hnamed, hmethM, hstM, habM⟩ := Cond.instanceMethod_spec hinst
  obtain ⟨m8, methM', cM, hn8, hmethM', -, -, -, -, -, -, hsigM⟩ := Cond.codeWith_spec hcode
  cases Option.some.inj (hn8.symm.trans hnamed)
  cases hmethM.symm.trans hmethM'
  obtain ⟨c2, r2, m2, q1, q2, q3, q4, kP, hkP, hkPi⟩ := Cond.selects_spec hsel
  cases hcls.symm.trans q1
  cases (State.methodFound?_of_named hnamed hy).symm.trans q2
  cases hnamed.symm.trans q3
  have hselP : selectMethod e.platform s.vm cellB.cls mk = .method mk := by rw [Launch.admits_selectMethod X.admits]; exact q4
  obtain ⟨vm₁, X₁, hstep₁⟩ := X.invokevirtual hexec hown hlink hnamed hmethM hstM hkP hkPi hy (a := b) (cell := cellB) hcell
    (fun z h => by rw [h] at hobj; cases hobj) hselP hmethM habM hkP hkPi (g := g) hg (argsL := argsL) (rest := rest) (hlen _ hsigM) hstack hdg
  obtain ⟨v, B, X', hpost, hsteps⟩ := hK m meth c ⟨T.setVm vm₁, locs, cells, slots⟩ { g with stack := rest } (.invokevirtual index) mk (Value.ref b :: argsL).toArray X₁ hg hsize hdg hW (X₁.named hnamed) (hpre vm₁ X₁.warmed)
  exact ⟨v, vm₁, B, X₁.warmed, X', hpost, fun target h => hstep₁ _ fun acts => by rw [doInvoke_state]; exact hsteps.trans h⟩
abbrev vx_CVW (R : Room) (s : State) (args : Array Value) (own C : String) (index : Nat) (y : MethodName) (bytes : ByteArray) (maxL : Nat) (ret : Option FieldType) (hh : List (Nat × Nat × Nat × Nat)) (ws : List Cond) (rm : Room) (mc ms n : Nat) : Prop :=
  (rm.cells = mc ∧ rm.slots = ms ∧ rm.frames + 1 ≤ R.frames ∧ 8 + (maxL + 11) + rm.locals ≤ R.locals ∧ (∀ w ∈ ws, ∀ (a' : Array Value) (U : State), s.WarmedH U.vm → w.before a' U = true) ∧ Cond.codeWith y bytes maxL ret hh ∈ ws) ∧
  (Cond.codeWith y bytes maxL ret hh).before args s = true ∧ (Cond.initialized y.cls).before args s = true ∧ (y.cls ≠ "java/lang/invoke/MethodHandle" ∧ y.cls ≠ "java/lang/invoke/VarHandle") ∧
  (∀ sig, parseMethodDescriptor y.desc = some sig → n = sig.parameters.length) ∧ (Cond.methodLink own index y).before args s = true ∧ (Cond.instanceMethod y).before args s = true ∧ (Cond.selects C y y).before args s = true
theorem vx_cwVW {own C : String} {index maxL mc ms : Nat} {y : MethodName} {bytes : ByteArray} {ret : Option FieldType} {hh : List (Nat × Nat × Nat × Nat)} {Ts ws ws' : List Cond} {rm : Room} (n : Nat) (ht : ∀ w ∈ Ts, w.before args s = true) (hT : GoodIn Ts (wsV own index C y ws)) (hw : ws = Cond.codeWith y bytes maxL ret hh :: ws') (hrc : rm.cells = mc) (hrs : rm.slots = ms)
    (hd : y.cls = C ∧ y.cls ≠ "java/lang/invoke/MethodHandle" ∧ y.cls ≠ "java/lang/invoke/VarHandle" ∧ (parseMethodDescriptor y.desc).map (fun d => d.parameters.length) = some n) (hR : rm.frames + 1 ≤ R.frames ∧ 8 + (maxL + 11) + rm.locals ≤ R.locals) :
    vx_CVW R s args own C index y bytes maxL ret hh ws rm mc ms n := by
  obtain ⟨hC, hd⟩ := hd
  subst hC
  have ok : ∀ w ∈ wsV own index y.cls y ws, w.before args s = true := fun w h => ht w (hT w h).1
  have hG : GoodIn Ts ws := fun w h => hT w (by unfold wsV; exact List.mem_append_right _ h)
  have hc : Cond.codeWith y bytes maxL ret hh ∈ ws := by rw [hw]; exact List.mem_cons_self
  refine ⟨⟨hrc, hrs, hR.1, hR.2, pay_in ht hG, hc⟩, ht _ (hG _ hc).1, ok _ (by simp [wsV]), ⟨hd.1, hd.2.1⟩, fun sig h => ?_, ok _ (by simp [wsV]), ok _ (by simp [wsV]), ok _ (by simp [wsV])⟩
  have h2 := hd.2.2
  rw [h] at h2
  exact (Option.some.inj h2).symm
theorem vx_runVW {y : MethodName} {bytes cc : ByteArray} {maxL nL mc ms n index : Nat} {ret : Option FieldType} {hh : List (Nat × Nat × Nat × Nat)} {ws : List Cond} {rm : Room} {Pc : Array Value → State → Prop} {Qc : Array Value → State → Outcome → State → Prop} {free : Addr → Prop} {Ts : List Cond} {own C : String} {b : Addr} {As rest : List Value} {g : JFrame}
    (S : CallFix p m c cc nL s args Ts own) (hM : Met l y ws rm Pc Qc mc ms free) (cw : vx_CVW R s args own C index y bytes maxL ret hh ws rm mc ms n) (hp : PreV s H C b Pc As)
    (hg : g.method = m) (hn : As.length = n) (hsize : g.locals.size = nL) (hstack : g.stack = As.reverse ++ .ref b :: rest) (hW : 2 * g.monitorRoom + (rest.map fun v => v.category).sum ≤ 8) (hdg : decode cc g.pc = .ok (.invokevirtual index, 3)) (hf : cells + mc ≤ R.cells ∧ slots + ms ≤ R.slots) :
    va_Run p l e R s m args below meth c H locs cells slots mc ms g rest (Qc (Value.ref b :: As).toArray) free := by
  obtain ⟨⟨hrc, hrs, hfr, hlo, hws, hcw⟩, hcode, hini, hy, hlen, hl, hin, hse⟩ := cw
  have hK : Back l R p e below s args y 3 8 (PreOf R mc ms Pc) (PostOf Qc mc ms free) := va_backW (hh := hh) (bytes := bytes) (maxL := maxL) (ret := ret) hM hp.1 hrc hrs hfr hlo hws hcw (fun a' U hW => word_at hW (Or.inl (by first | rfl | simp [Cond.onTables, Cond.keeps, Cond.steady])) hini)
  obtain ⟨hx, hb, hml, ho, -⟩ := S
  obtain ⟨-, ⟨cellB, hcB, hoB, hclB⟩, hPc⟩ := hp
  intro T hT X
  obtain ⟨v, vm₁, ⟨U', l2, c2, s2⟩, hW₁, X', ⟨g', mk, t, L, e1, e2, hq, h1, hL, h2, h3⟩, st⟩ := vx_callVW X hx (C := C) (hh := hh) (bytes := bytes) (maxL := maxL) (ret := ret) ho hl hin hse hcode hy hK (by rw [hT]; exact hcB) hoB hclB hg (hsize.trans hml.symm) (argsL := As) (rest := rest) (fun sig h => hn.trans (hlen sig h)) hstack hW (by rw [hb]; exact hdg)
    (fun vm₁ hW₁ => ⟨hf.1, hf.2, hPc (T.setVm vm₁) hT hW₁⟩)
  dsimp only [Pt.U, Pt.locs, Pt.cells, Pt.slots] at X' e1 e2 h1 h2 h3 st
  subst h1; subst h2; subst h3
  exact ⟨v, (T.setVm vm₁).calling g' mk (Value.ref b :: As).toArray, t, U', L, hT, X', hL, e1, e2, hq, st⟩
section
variable {y : MethodName} {bytes cc : ByteArray} {maxL nL mc ms n index : Nat} {ret : Option FieldType} {ws : List Cond} {rm : Room} {Pc : Array Value → State → Prop} {Qc : Array Value → State → Outcome → State → Prop} {XC : String → State → State → Prop} {free : Addr → Prop} {Ts : List Cond} {own C : String} {b : Addr} {As rest : List Value} {g : JFrame}
theorem vx_runVX {hh : List (Nat × Nat × Nat × Nat)} (S : CallFix p m c cc nL s args Ts own) (hM : vx_Met l y ws rm Pc Qc XC mc ms free) (cw : vx_CVW R s args own C index y bytes maxL ret hh ws rm mc ms n) (hp : PreV s H C b Pc As)
    (hg : g.method = m) (hn : As.length = n) (hsize : g.locals.size = nL) (hstack : g.stack = As.reverse ++ .ref b :: rest) (hW : 2 * g.monitorRoom + (rest.map fun v => v.category).sum ≤ 8) (hdg : decode cc g.pc = .ok (.invokevirtual index, 3)) (hf : cells + mc ≤ R.cells ∧ slots + ms ≤ R.slots) :
    vx_Run p l e R s m args below meth c H locs cells slots mc ms g rest (Qc (Value.ref b :: As).toArray) XC free := by
  obtain ⟨⟨hrc, hrs, hfr, hlo, hws, hcw⟩, hcode, hini, hy, hlen, hl, hin, hse⟩ := cw
  have hK : vx_Back l R p e below s args y 3 8 (PreOf R mc ms Pc) (PostOf Qc mc ms free) (vx_Post XC mc ms free) := vx_backW (hh := hh) (bytes := bytes) (maxL := maxL) (ret := ret) hM hp.1 hrc hrs hfr hlo hws hcw (fun a' U hW => word_at hW (Or.inl (by first | rfl | simp [Cond.onTables, Cond.keeps, Cond.steady])) hini)
  obtain ⟨hx, hb, hml, ho, -⟩ := S
  obtain ⟨-, ⟨cellB, hcB, hoB, hclB⟩, hPc⟩ := hp
  intro T hT X
  rcases vx_callVX X hx (C := C) (hh := hh) (bytes := bytes) (maxL := maxL) (ret := ret) ho hl hin hse hcode hy hK (by rw [hT]; exact hcB) hoB hclB hg (hsize.trans hml.symm) (argsL := As) (rest := rest) (fun sig h => hn.trans (hlen sig h)) hstack hW (by rw [hb]; exact hdg)
    (fun vm₁ hW₁ => ⟨hf.1, hf.2, hPc (T.setVm vm₁) hT hW₁⟩) with ⟨v, vm₁, ⟨U', l2, c2, s2⟩, hW₁, X', ⟨g', mk, t, L, e1, e2, hq, h1, hL, h2, h3⟩, st⟩ | ⟨q, vm₁, ⟨U', l2, c2, s2⟩, hW₁, X', ⟨g', mk, t, L, E, ce, e1, e2, hq, hce, hcv, hcl, h1, hL, h2, h3⟩, st⟩
  · dsimp only [Pt.U, Pt.locs, Pt.cells, Pt.slots] at X' e1 e2 h1 h2 h3 st
    subst h1; subst h2; subst h3
    exact Or.inl ⟨v, (T.setVm vm₁).calling g' mk (Value.ref b :: As).toArray, t, U', L, hT, X', hL, e1, e2, hq, st⟩
  · dsimp only [Pt.U, Pt.locs, Pt.cells, Pt.slots] at X' e1 e2 h1 h2 h3 st hcl
    subst h1; subst h2; subst h3
    exact Or.inr ⟨q, (T.setVm vm₁).calling g' mk (Value.ref b :: As).toArray, t, U', L, E, ce, hT, X', hL, e1, e2, hq, hce, hcv, vx_cls hW₁ hcl, st⟩
theorem vx_runSX {hh : List (Nat × Nat × Nat × Nat)} (S : CallFix p m c cc nL s args Ts own) (hM : vx_Met l y ws rm Pc Qc XC mc ms free) (cw : vx_CSW R s args own index y bytes maxL ret hh ws rm mc ms n) (hp : PreS s H Pc As)
    (hg : g.method = m) (hn : As.length = n) (hsize : g.locals.size = nL) (hstack : g.stack = As.reverse ++ rest) (hW : 2 * g.monitorRoom + (rest.map fun v => v.category).sum ≤ 8) (hdg : decode cc g.pc = .ok (.invokestatic index, 3)) (hf : cells + mc ≤ R.cells ∧ slots + ms ≤ R.slots) :
    vx_Run p l e R s m args below meth c H locs cells slots mc ms g rest (Qc As.toArray) XC free := by
  obtain ⟨⟨hrc, hrs, hfr, hlo, hws, hcw⟩, hcode, hini, hy, hlen, hl, hstt⟩ := cw
  have hK : vx_Back l R p e below s args y 3 8 (PreOf R mc ms Pc) (PostOf Qc mc ms free) (vx_Post XC mc ms free) := vx_backW (hh := hh) (bytes := bytes) (maxL := maxL) (ret := ret) hM hp.1 hrc hrs hfr hlo hws hcw (fun a' U hW => word_at hW (Or.inl (by first | rfl | simp [Cond.onTables, Cond.keeps, Cond.steady])) hini)
  obtain ⟨hx, hb, hml, ho, -⟩ := S
  intro T hT X
  rcases vx_callSX X hx (hh := hh) (bytes := bytes) (maxL := maxL) (ret := ret) ho hl hstt hini hcode hy hK hg (hsize.trans hml.symm) (argsL := As) (rest := rest) (fun sig h => hn.trans (hlen sig h)) hstack hW (by rw [hb]; exact hdg)
    (fun vm₁ hW₁ => ⟨hf.1, hf.2, hp.2 (T.setVm vm₁) hT hW₁⟩) with ⟨v, vm₁, ⟨U', l2, c2, s2⟩, hW₁, X', ⟨g', mk, t, L, e1, e2, hq, h1, hL, h2, h3⟩, st⟩ | ⟨q, vm₁, ⟨U', l2, c2, s2⟩, hW₁, X', ⟨g', mk, t, L, E, ce, e1, e2, hq, hce, hcv, hcl, h1, hL, h2, h3⟩, st⟩
  · dsimp only [Pt.U, Pt.locs, Pt.cells, Pt.slots] at X' e1 e2 h1 h2 h3 st
    subst h1; subst h2; subst h3
    exact Or.inl ⟨v, (T.setVm vm₁).calling g' mk As.toArray, t, U', L, hT, X', hL, e1, e2, hq, st⟩
  · dsimp only [Pt.U, Pt.locs, Pt.cells, Pt.slots] at X' e1 e2 h1 h2 h3 st hcl
    subst h1; subst h2; subst h3
    exact Or.inr ⟨q, (T.setVm vm₁).calling g' mk As.toArray, t, U', L, E, ce, hT, X', hL, e1, e2, hq, hce, hcv, vx_cls hW₁ hcl, st⟩
end
end VXH
theorem vx_ofWH {l : Launch} {y : MethodName} {ws ws' : List Cond} {rm : Room} {Pc : Array Value → State → Prop} {Qc : Array Value → State → Outcome → State → Prop} {XC : String → State → State → Prop} {mc ms : Nat} {free : Addr → Prop} {cc : ByteArray} {maxL : Nat} {ret : Option FieldType} {hh : List (Nat × Nat × Nat × Nat)}
    (hy : plainName y.cls = true) (hw : ws = Cond.codeWith y cc maxL ret hh :: ws')
    (body : ∀ p e s m args below meth c s₁, BodyLoose p l y (headSpec ws rm) cc maxL ret e s m args below meth c s₁ → c.maxLocals = maxL → Pc args s →
      W p l e (headSpec ws rm).room s m args below meth c s.heap [] 0 0 (vx_MQ below Qc XC args s mc ms free) (entryFrame m args maxL)) : vx_Met l y ws rm Pc Qc XC mc ms free := by
  refine MetFree.of_bodyS (code := cc) (maxLocals := maxL) (ret := ret) hy ?_ ?_
  · intro args s m h hn
    obtain ⟨m9, meth, c, hn9, h1, h2, h3, h4, -, h5, h6, -⟩ := Cond.codeWith_spec (atoms_spec (ws := ws) h _ (by rw [hw]; exact List.mem_cons_self))
    cases hn.symm.trans hn9
    exact ⟨meth, c, h1, h2, h3, h4, h5, h6⟩
  · intro p e s m args below meth c s₁ B hml hP _
    have hh0 : s₁.heap = s.heap := by rw [B.state]; rfl
    obtain ⟨t, a1, o, b1, b2, b3⟩ := body p e s m args below meth c s₁ B hml hP s₁ hh0 (Stand.of_body B)
    exact ⟨t, o, a1, b1, b2, b3⟩
/-! ===== END ===== -/

/-! ===== BEGIN printed: names, fields, word lists, decode rows ===== -/
def RX0 : String := "BottlingBook$Bottlings"
def TX0 : u_T := fun k => match k with
  | 0 => ("BottlingBook$Bottlings", "numbers", "LBottlingBook$Table;", true)
  | _ => ("BottlingBook$Bottlings", "count", "I", false)
def tyX0 : Nat → FieldType := fun k => match k with
  | 0 => .object "BottlingBook$Table"
  | _ => .int
abbrev wsX00 : List Cond := u_ws RX0 TX0 2
theorem nmX0 : ∀ a, a < 2 → ∀ b, b < 2 → a ≠ b → (TX0 a).2.1 ≠ (TX0 b).2.1 := by decide +kernel
theorem tyX0_ok : ∀ k, k < 2 → parseFieldDescriptor (TX0 k).2.2.1 = some (tyX0 k) := by decide +kernel
abbrev cX0_init : ByteArray := prog_2_method_1_code
def yX0_init : MethodName := ⟨RX0, "<init>", "()V"⟩
abbrev cX0_copyFrom : ByteArray := prog_2_method_2_code
def yX0_copyFrom : MethodName := ⟨RX0, "copyFrom", "(LBottlingBook$Bottlings;)V"⟩
abbrev cX0_fill : ByteArray := prog_2_method_3_code
def yX0_fill : MethodName := ⟨RX0, "fill", "(II)I"⟩
abbrev cX0_putLabel : ByteArray := prog_2_method_4_code
def yX0_putLabel : MethodName := ⟨RX0, "putLabel", "(IIIII)V"⟩
abbrev cX0_lotOf : ByteArray := prog_2_method_5_code
def yX0_lotOf : MethodName := ⟨RX0, "lotOf", "(I)I"⟩
abbrev cX0_stockOf : ByteArray := prog_2_method_6_code
def yX0_stockOf : MethodName := ⟨RX0, "stockOf", "(I)I"⟩
abbrev cX0_addToStock : ByteArray := prog_2_method_7_code
def yX0_addToStock : MethodName := ⟨RX0, "addToStock", "(II)V"⟩
abbrev cX0_ofLots : ByteArray := prog_2_method_8_code
def yX0_ofLots : MethodName := ⟨RX0, "ofLots", "(I)I"⟩
abbrev cX0_stockOfAll : ByteArray := prog_2_method_9_code
def yX0_stockOfAll : MethodName := ⟨RX0, "stockOfAll", "(I)I"⟩
abbrev cX0_bottledQuarters : ByteArray := prog_2_method_10_code
def yX0_bottledQuarters : MethodName := ⟨RX0, "bottledQuarters", "()I"⟩
def RX1 : String := "BottlingBook$Customers"
def TX1 : u_T := fun k => match k with
  | 0 => ("BottlingBook$Customers", "kinds", "LBottlingBook$Table;", true)
  | 1 => ("BottlingBook$Customers", "held", "LBottlingBook$Table;", true)
  | 2 => ("BottlingBook$Customers", "wished", "LBottlingBook$Table;", true)
  | _ => ("BottlingBook$Customers", "count", "I", false)
def tyX1 : Nat → FieldType := fun k => match k with
  | 0 => .object "BottlingBook$Table"
  | 1 => .object "BottlingBook$Table"
  | 2 => .object "BottlingBook$Table"
  | _ => .int
abbrev wsX10 : List Cond := u_ws RX1 TX1 4
theorem nmX1 : ∀ a, a < 4 → ∀ b, b < 4 → a ≠ b → (TX1 a).2.1 ≠ (TX1 b).2.1 := by decide +kernel
theorem tyX1_ok : ∀ k, k < 4 → parseFieldDescriptor (TX1 k).2.2.1 = some (tyX1 k) := by decide +kernel
abbrev cX1_init : ByteArray := prog_3_method_1_code
def yX1_init : MethodName := ⟨RX1, "<init>", "()V"⟩
abbrev cX1_copyFrom : ByteArray := prog_3_method_2_code
def yX1_copyFrom : MethodName := ⟨RX1, "copyFrom", "(LBottlingBook$Customers;)V"⟩
abbrev cX1_enter : ByteArray := prog_3_method_3_code
def yX1_enter : MethodName := ⟨RX1, "enter", "(I)I"⟩
abbrev cX1_missingTo : ByteArray := prog_3_method_4_code
def yX1_missingTo : MethodName := ⟨RX1, "missingTo", "(II)I"⟩
abbrev cX1_portionOf : ByteArray := prog_3_method_5_code
def yX1_portionOf : MethodName := ⟨RX1, "portionOf", "(I)I"⟩
abbrev cX1_lineUp : ByteArray := prog_3_method_6_code
def yX1_lineUp : MethodName := ⟨RX1, "lineUp", "(ILBottlingBook$Table;)I"⟩
abbrev cX1_handOut : ByteArray := prog_3_method_7_code
def yX1_handOut : MethodName := ⟨RX1, "handOut", "(IILBottlingBook$Table;)I"⟩
abbrev cX1_handTo : ByteArray := prog_3_method_8_code
def yX1_handTo : MethodName := ⟨RX1, "handTo", "(III)I"⟩
abbrev cX1_handIn : ByteArray := prog_3_method_9_code
def yX1_handIn : MethodName := ⟨RX1, "handIn", "(III)I"⟩
abbrev cX1_heldOfAll : ByteArray := prog_3_method_10_code
def yX1_heldOfAll : MethodName := ⟨RX1, "heldOfAll", "(II)I"⟩
abbrev cX1_heldByAll : ByteArray := prog_3_method_11_code
def yX1_heldByAll : MethodName := ⟨RX1, "heldByAll", "()I"⟩
def RX2 : String := "BottlingBook$History"
def TX2 : u_T := fun k => match k with
  | 0 => ("BottlingBook$History", "states", "[LBottlingBook$State;", true)
  | 1 => ("BottlingBook$History", "next", "I", false)
  | _ => ("BottlingBook$History", "count", "I", false)
def tyX2 : Nat → FieldType := fun k => match k with
  | 0 => .array (.object "BottlingBook$State")
  | 1 => .int
  | _ => .int
abbrev wsX20 : List Cond := u_ws RX2 TX2 3
theorem nmX2 : ∀ a, a < 3 → ∀ b, b < 3 → a ≠ b → (TX2 a).2.1 ≠ (TX2 b).2.1 := by decide +kernel
theorem tyX2_ok : ∀ k, k < 3 → parseFieldDescriptor (TX2 k).2.2.1 = some (tyX2 k) := by decide +kernel
abbrev cX2_init : ByteArray := prog_4_method_1_code
def yX2_init : MethodName := ⟨RX2, "<init>", "()V"⟩
abbrev cX2_stateAt : ByteArray := prog_4_method_2_code
def yX2_stateAt : MethodName := ⟨RX2, "stateAt", "(I)LBottlingBook$State;"⟩
abbrev cX2_remember : ByteArray := prog_4_method_3_code
def yX2_remember : MethodName := ⟨RX2, "remember", "(LBottlingBook$State;)V"⟩
abbrev cX2_takeBack : ByteArray := prog_4_method_4_code
def yX2_takeBack : MethodName := ⟨RX2, "takeBack", "(LBottlingBook$State;)V"⟩
def RX3 : String := "BottlingBook$Input"
def TX3 : u_T := fun k => match k with
  | 0 => ("BottlingBook$Input", "signs", "[C", true)
  | 1 => ("BottlingBook$Input", "readParts", "LBottlingBook$Table;", true)
  | 2 => ("BottlingBook$Input", "length", "I", false)
  | 3 => ("BottlingBook$Input", "parts", "I", false)
  | 4 => ("BottlingBook$Input", "position", "I", false)
  | _ => ("BottlingBook$Input", "sound", "Z", false)
def tyX3 : Nat → FieldType := fun k => match k with
  | 0 => .array .char
  | 1 => .object "BottlingBook$Table"
  | 2 => .int
  | 3 => .int
  | 4 => .int
  | _ => .boolean
abbrev wsX30 : List Cond := u_ws RX3 TX3 6
theorem nmX3 : ∀ a, a < 6 → ∀ b, b < 6 → a ≠ b → (TX3 a).2.1 ≠ (TX3 b).2.1 := by decide +kernel
theorem tyX3_ok : ∀ k, k < 6 → parseFieldDescriptor (TX3 k).2.2.1 = some (tyX3 k) := by decide +kernel
abbrev cX3_init : ByteArray := prog_5_method_1_code
def yX3_init : MethodName := ⟨RX3, "<init>", "()V"⟩
abbrev cX3_append : ByteArray := prog_5_method_2_code
def yX3_append : MethodName := ⟨RX3, "append", "(C)I"⟩
abbrev cX3_lotOf : ByteArray := prog_5_method_3_code
def yX3_lotOf : MethodName := ⟨RX3, "lotOf", "(I)I"⟩
abbrev cX3_quartersOf : ByteArray := prog_5_method_4_code
def yX3_quartersOf : MethodName := ⟨RX3, "quartersOf", "(I)I"⟩
abbrev cX3_hasEmptyPart : ByteArray := prog_5_method_5_code
def yX3_hasEmptyPart : MethodName := ⟨RX3, "hasEmptyPart", "()Z"⟩
abbrev cX3_readBlend : ByteArray := prog_5_method_6_code
def yX3_readBlend : MethodName := ⟨RX3, "readBlend", "()Z"⟩
abbrev cX3_readPart : ByteArray := prog_5_method_7_code
def yX3_readPart : MethodName := ⟨RX3, "readPart", "(I)V"⟩
abbrev cX3_nextSign : ByteArray := prog_5_method_8_code
def yX3_nextSign : MethodName := ⟨RX3, "nextSign", "()I"⟩
abbrev cX3_hasDigit : ByteArray := prog_5_method_9_code
def yX3_hasDigit : MethodName := ⟨RX3, "hasDigit", "()Z"⟩
abbrev cX3_readSign : ByteArray := prog_5_method_10_code
def yX3_readSign : MethodName := ⟨RX3, "readSign", "(C)V"⟩
abbrev cX3_readNumber : ByteArray := prog_5_method_11_code
def yX3_readNumber : MethodName := ⟨RX3, "readNumber", "()I"⟩
def RX4 : String := "BottlingBook$Lots"
def TX4 : u_T := fun k => match k with
  | 0 => ("BottlingBook$Lots", "numbers", "LBottlingBook$Table;", true)
  | 1 => ("BottlingBook$Lots", "partLots", "LBottlingBook$Table;", true)
  | 2 => ("BottlingBook$Lots", "partQuarters", "LBottlingBook$Table;", true)
  | 3 => ("BottlingBook$Lots", "shares", "LBottlingBook$Table;", true)
  | 4 => ("BottlingBook$Lots", "origins", "LBottlingBook$Table;", true)
  | 5 => ("BottlingBook$Lots", "count", "I", false)
  | 6 => ("BottlingBook$Lots", "harvests", "I", false)
  | _ => ("BottlingBook$Lots", "spilled", "I", false)
def tyX4 : Nat → FieldType := fun k => match k with
  | 0 => .object "BottlingBook$Table"
  | 1 => .object "BottlingBook$Table"
  | 2 => .object "BottlingBook$Table"
  | 3 => .object "BottlingBook$Table"
  | 4 => .object "BottlingBook$Table"
  | 5 => .int
  | 6 => .int
  | _ => .int
abbrev wsX40 : List Cond := u_ws RX4 TX4 8
theorem nmX4 : ∀ a, a < 8 → ∀ b, b < 8 → a ≠ b → (TX4 a).2.1 ≠ (TX4 b).2.1 := by decide +kernel
theorem tyX4_ok : ∀ k, k < 8 → parseFieldDescriptor (TX4 k).2.2.1 = some (tyX4 k) := by decide +kernel
abbrev cX4_init : ByteArray := prog_6_method_1_code
def yX4_init : MethodName := ⟨RX4, "<init>", "()V"⟩
abbrev cX4_copyFrom : ByteArray := prog_6_method_2_code
def yX4_copyFrom : MethodName := ⟨RX4, "copyFrom", "(LBottlingBook$Lots;)V"⟩
abbrev cX4_bringIn : ByteArray := prog_6_method_3_code
def yX4_bringIn : MethodName := ⟨RX4, "bringIn", "(IIII)I"⟩
abbrev cX4_mix : ByteArray := prog_6_method_4_code
def yX4_mix : MethodName := ⟨RX4, "mix", "(LBottlingBook$Input;LBottlingBook$Table;)I"⟩
abbrev cX4_enter : ByteArray := prog_6_method_5_code
def yX4_enter : MethodName := ⟨RX4, "enter", "(IIII)I"⟩
abbrev cX4_take : ByteArray := prog_6_method_6_code
def yX4_take : MethodName := ⟨RX4, "take", "(II)V"⟩
abbrev cX4_leftIn : ByteArray := prog_6_method_7_code
def yX4_leftIn : MethodName := ⟨RX4, "leftIn", "(I)I"⟩
abbrev cX4_partsOf : ByteArray := prog_6_method_8_code
def yX4_partsOf : MethodName := ⟨RX4, "partsOf", "(I)I"⟩
abbrev cX4_refusalOf : ByteArray := prog_6_method_9_code
def yX4_refusalOf : MethodName := ⟨RX4, "refusalOf", "(LBottlingBook$Input;)I"⟩
abbrev cX4_hasWrongParts : ByteArray := prog_6_method_10_code
def yX4_hasWrongParts : MethodName := ⟨RX4, "hasWrongParts", "(LBottlingBook$Input;)Z"⟩
abbrev cX4_hasTooGreatPart : ByteArray := prog_6_method_11_code
def yX4_hasTooGreatPart : MethodName := ⟨RX4, "hasTooGreatPart", "(LBottlingBook$Input;)Z"⟩
abbrev cX4_generationOf : ByteArray := prog_6_method_12_code
def yX4_generationOf : MethodName := ⟨RX4, "generationOf", "(LBottlingBook$Input;)I"⟩
abbrev cX4_mixShares : ByteArray := prog_6_method_13_code
def yX4_mixShares : MethodName := ⟨RX4, "mixShares", "(IILBottlingBook$Table;)V"⟩
abbrev cX4_partsTimesShares : ByteArray := prog_6_method_14_code
def yX4_partsTimesShares : MethodName := ⟨RX4, "partsTimesShares", "(II)I"⟩
abbrev cX4_numbersBy : ByteArray := prog_6_method_15_code
def yX4_numbersBy : MethodName := ⟨RX4, "numbersBy", "(I)I"⟩
abbrev cX4_shareBy : ByteArray := prog_6_method_16_code
def yX4_shareBy : MethodName := ⟨RX4, "shareBy", "(III)I"⟩
abbrev cX4_harvestsIn : ByteArray := prog_6_method_17_code
def yX4_harvestsIn : MethodName := ⟨RX4, "harvestsIn", "(I)I"⟩
abbrev cX4_vintageSum : ByteArray := prog_6_method_18_code
def yX4_vintageSum : MethodName := ⟨RX4, "vintageSum", "(I)I"⟩
abbrev cX4_partSetOf : ByteArray := prog_6_method_19_code
def yX4_partSetOf : MethodName := ⟨RX4, "partSetOf", "(I)I"⟩
abbrev cX4_blendsOf : ByteArray := prog_6_method_20_code
def yX4_blendsOf : MethodName := ⟨RX4, "blendsOf", "(I)I"⟩
abbrev cX4_allMadeOf : ByteArray := prog_6_method_21_code
def yX4_allMadeOf : MethodName := ⟨RX4, "allMadeOf", "(I)I"⟩
abbrev cX4_allThatMake : ByteArray := prog_6_method_22_code
def yX4_allThatMake : MethodName := ⟨RX4, "allThatMake", "(I)I"⟩
abbrev cX4_waysInto : ByteArray := prog_6_method_23_code
def yX4_waysInto : MethodName := ⟨RX4, "waysInto", "(IILBottlingBook$Table;)I"⟩
abbrev cX4_harvestedQuarters : ByteArray := prog_6_method_24_code
def yX4_harvestedQuarters : MethodName := ⟨RX4, "harvestedQuarters", "()I"⟩
abbrev cX4_leftInAll : ByteArray := prog_6_method_25_code
def yX4_leftInAll : MethodName := ⟨RX4, "leftInAll", "()I"⟩
def RX5 : String := "BottlingBook$State"
def TX5 : u_T := fun k => match k with
  | 0 => ("BottlingBook$State", "lots", "LBottlingBook$Lots;", true)
  | 1 => ("BottlingBook$State", "bottlings", "LBottlingBook$Bottlings;", true)
  | 2 => ("BottlingBook$State", "customers", "LBottlingBook$Customers;", true)
  | _ => ("BottlingBook$State", "law", "LBottlingBook$Table;", true)
def tyX5 : Nat → FieldType := fun k => match k with
  | 0 => .object "BottlingBook$Lots"
  | 1 => .object "BottlingBook$Bottlings"
  | 2 => .object "BottlingBook$Customers"
  | _ => .object "BottlingBook$Table"
abbrev wsX50 : List Cond := u_ws RX5 TX5 4
theorem nmX5 : ∀ a, a < 4 → ∀ b, b < 4 → a ≠ b → (TX5 a).2.1 ≠ (TX5 b).2.1 := by decide +kernel
theorem tyX5_ok : ∀ k, k < 4 → parseFieldDescriptor (TX5 k).2.2.1 = some (tyX5 k) := by decide +kernel
abbrev cX5_init : ByteArray := prog_7_method_1_code
def yX5_init : MethodName := ⟨RX5, "<init>", "()V"⟩
abbrev cX5_copyFrom : ByteArray := prog_7_method_2_code
def yX5_copyFrom : MethodName := ⟨RX5, "copyFrom", "(LBottlingBook$State;)V"⟩
abbrev cX5_bottlingRefusal : ByteArray := prog_7_method_3_code
def yX5_bottlingRefusal : MethodName := ⟨RX5, "bottlingRefusal", "(IIIIII)I"⟩
abbrev cX5_labelRefusal : ByteArray := prog_7_method_4_code
def yX5_labelRefusal : MethodName := ⟨RX5, "labelRefusal", "(IIIII)I"⟩
abbrev cX5_isAllowed : ByteArray := prog_7_method_5_code
def yX5_isAllowed : MethodName := ⟨RX5, "isAllowed", "(III)Z"⟩
abbrev cX5_areAllowed : ByteArray := prog_7_method_6_code
def yX5_areAllowed : MethodName := ⟨RX5, "areAllowed", "(III)Z"⟩
abbrev cX5_isLabelAllowed : ByteArray := prog_7_method_7_code
def yX5_isLabelAllowed : MethodName := ⟨RX5, "isLabelAllowed", "(I)Z"⟩
def RX6 : String := "BottlingBook$Table"
def TX6 : u_T := fun k => match k with
  | 0 => ("BottlingBook$Table", "rows", "I", true)
  | 1 => ("BottlingBook$Table", "columns", "I", true)
  | _ => ("BottlingBook$Table", "cells", "[I", true)
def tyX6 : Nat → FieldType := fun k => match k with
  | 0 => .int
  | 1 => .int
  | _ => .array .int
abbrev wsX60 : List Cond := u_ws RX6 TX6 3
theorem nmX6 : ∀ a, a < 3 → ∀ b, b < 3 → a ≠ b → (TX6 a).2.1 ≠ (TX6 b).2.1 := by decide +kernel
theorem tyX6_ok : ∀ k, k < 3 → parseFieldDescriptor (TX6 k).2.2.1 = some (tyX6 k) := by decide +kernel
abbrev cX6_init : ByteArray := prog_8_method_1_code
def yX6_init : MethodName := ⟨RX6, "<init>", "(II)V"⟩
abbrev cX6_placeOf : ByteArray := prog_8_method_2_code
def yX6_placeOf : MethodName := ⟨RX6, "placeOf", "(II)I"⟩
abbrev cX6_at : ByteArray := prog_8_method_3_code
def yX6_at : MethodName := ⟨RX6, "at", "(II)I"⟩
abbrev cX6_put : ByteArray := prog_8_method_4_code
def yX6_put : MethodName := ⟨RX6, "put", "(III)V"⟩
abbrev cX6_add : ByteArray := prog_8_method_5_code
def yX6_add : MethodName := ⟨RX6, "add", "(III)V"⟩
abbrev cX6_copyFrom : ByteArray := prog_8_method_6_code
def yX6_copyFrom : MethodName := ⟨RX6, "copyFrom", "(LBottlingBook$Table;)V"⟩
abbrev cX6_sumOfColumn : ByteArray := prog_8_method_7_code
def yX6_sumOfColumn : MethodName := ⟨RX6, "sumOfColumn", "(I)I"⟩
abbrev cX6_rankOf : ByteArray := prog_8_method_8_code
def yX6_rankOf : MethodName := ⟨RX6, "rankOf", "(II)I"⟩
abbrev cX6_columnAtRank : ByteArray := prog_8_method_9_code
def yX6_columnAtRank : MethodName := ⟨RX6, "columnAtRank", "(II)I"⟩
abbrev cX6_columnOf : ByteArray := prog_8_method_10_code
def yX6_columnOf : MethodName := ⟨RX6, "columnOf", "(II)I"⟩
def RX7 : String := "BottlingBook"
def TX7 : u_T := fun k => match k with
  | 0 => ("BottlingBook", "now", "LBottlingBook$State;", true)
  | 1 => ("BottlingBook", "saved", "LBottlingBook$State;", true)
  | 2 => ("BottlingBook", "history", "LBottlingBook$History;", true)
  | 3 => ("BottlingBook", "input", "LBottlingBook$Input;", true)
  | 4 => ("BottlingBook", "line", "LBottlingBook$Table;", true)
  | 5 => ("BottlingBook", "remainders", "LBottlingBook$Table;", true)
  | 6 => ("BottlingBook", "wayCounts", "LBottlingBook$Table;", true)
  | 7 => ("BottlingBook", "hasSaved", "Z", false)
  | 8 => ("BottlingBook", "keptReason", "I", false)
  | _ => ("BottlingBook", "keptPosition", "I", false)
def tyX7 : Nat → FieldType := fun k => match k with
  | 0 => .object "BottlingBook$State"
  | 1 => .object "BottlingBook$State"
  | 2 => .object "BottlingBook$History"
  | 3 => .object "BottlingBook$Input"
  | 4 => .object "BottlingBook$Table"
  | 5 => .object "BottlingBook$Table"
  | 6 => .object "BottlingBook$Table"
  | 7 => .boolean
  | 8 => .int
  | _ => .int
abbrev wsX70 : List Cond := u_ws RX7 TX7 10
theorem nmX7 : ∀ a, a < 10 → ∀ b, b < 10 → a ≠ b → (TX7 a).2.1 ≠ (TX7 b).2.1 := by decide +kernel
theorem tyX7_ok : ∀ k, k < 10 → parseFieldDescriptor (TX7 k).2.2.1 = some (tyX7 k) := by decide +kernel
abbrev cX7_init : ByteArray := prog_1_method_1_code
def yX7_init : MethodName := ⟨RX7, "<init>", "()V"⟩
abbrev cX7_harvest : ByteArray := prog_1_method_2_code
def yX7_harvest : MethodName := ⟨RX7, "harvest", "(IIII)I"⟩
abbrev cX7_blend : ByteArray := prog_1_method_3_code
def yX7_blend : MethodName := ⟨RX7, "blend", "()I"⟩
abbrev cX7_spill : ByteArray := prog_1_method_4_code
def yX7_spill : MethodName := ⟨RX7, "spill", "(II)I"⟩
abbrev cX7_lot : ByteArray := prog_1_method_5_code
def yX7_lot : MethodName := ⟨RX7, "lot", "(II)I"⟩
abbrev cX7_part : ByteArray := prog_1_method_6_code
def yX7_part : MethodName := ⟨RX7, "part", "(III)I"⟩
abbrev cX7_share : ByteArray := prog_1_method_7_code
def yX7_share : MethodName := ⟨RX7, "share", "(III)I"⟩
abbrev cX7_greatest : ByteArray := prog_1_method_8_code
def yX7_greatest : MethodName := ⟨RX7, "greatest", "(II)I"⟩
abbrev cX7_meanVintage : ByteArray := prog_1_method_9_code
def yX7_meanVintage : MethodName := ⟨RX7, "meanVintage", "(I)D"⟩
abbrev cX7_setLaw : ByteArray := prog_1_method_10_code
def yX7_setLaw : MethodName := ⟨RX7, "setLaw", "(II)I"⟩
abbrev cX7_bottle : ByteArray := prog_1_method_11_code
def yX7_bottle : MethodName := ⟨RX7, "bottle", "(IIIIII)I"⟩
abbrev cX7_forbids : ByteArray := prog_1_method_12_code
def yX7_forbids : MethodName := ⟨RX7, "forbids", "(IIIII)I"⟩
abbrev cX7_bottling : ByteArray := prog_1_method_13_code
def yX7_bottling : MethodName := ⟨RX7, "bottling", "(II)I"⟩
abbrev cX7_reason : ByteArray := prog_1_method_14_code
def yX7_reason : MethodName := ⟨RX7, "reason", "()I"⟩
abbrev cX7_addCustomer : ByteArray := prog_1_method_15_code
def yX7_addCustomer : MethodName := ⟨RX7, "addCustomer", "(I)I"⟩
abbrev cX7_wish : ByteArray := prog_1_method_16_code
def yX7_wish : MethodName := ⟨RX7, "wish", "(III)I"⟩
abbrev cX7_serve : ByteArray := prog_1_method_17_code
def yX7_serve : MethodName := ⟨RX7, "serve", "(I)I"⟩
abbrev cX7_giveBack : ByteArray := prog_1_method_18_code
def yX7_giveBack : MethodName := ⟨RX7, "giveBack", "(III)I"⟩
abbrev cX7_holds : ByteArray := prog_1_method_19_code
def yX7_holds : MethodName := ⟨RX7, "holds", "(III)I"⟩
abbrev cX7_listed : ByteArray := prog_1_method_20_code
def yX7_listed : MethodName := ⟨RX7, "listed", "(II)I"⟩
abbrev cX7_recalled : ByteArray := prog_1_method_21_code
def yX7_recalled : MethodName := ⟨RX7, "recalled", "(I)I"⟩
abbrev cX7_recalledAgain : ByteArray := prog_1_method_22_code
def yX7_recalledAgain : MethodName := ⟨RX7, "recalledAgain", "(I)I"⟩
abbrev cX7_bottlesOf : ByteArray := prog_1_method_23_code
def yX7_bottlesOf : MethodName := ⟨RX7, "bottlesOf", "(II)I"⟩
abbrev cX7_ways : ByteArray := prog_1_method_24_code
def yX7_ways : MethodName := ⟨RX7, "ways", "(II)I"⟩
abbrev cX7_account : ByteArray := prog_1_method_25_code
def yX7_account : MethodName := ⟨RX7, "account", "(I)I"⟩
abbrev cX7_feed : ByteArray := prog_1_method_26_code
def yX7_feed : MethodName := ⟨RX7, "feed", "(C)I"⟩
abbrev cX7_errorPosition : ByteArray := prog_1_method_27_code
def yX7_errorPosition : MethodName := ⟨RX7, "errorPosition", "()I"⟩
abbrev cX7_undo : ByteArray := prog_1_method_28_code
def yX7_undo : MethodName := ⟨RX7, "undo", "()I"⟩
abbrev cX7_save : ByteArray := prog_1_method_29_code
def yX7_save : MethodName := ⟨RX7, "save", "()I"⟩
abbrev cX7_restore : ByteArray := prog_1_method_30_code
def yX7_restore : MethodName := ⟨RX7, "restore", "()I"⟩
abbrev cX7_isWithin : ByteArray := prog_1_method_31_code
def yX7_isWithin : MethodName := ⟨RX7, "isWithin", "(III)Z"⟩
abbrev cX7_isIn : ByteArray := prog_1_method_32_code
def yX7_isIn : MethodName := ⟨RX7, "isIn", "(II)Z"⟩
abbrev cX7_requireNumber : ByteArray := prog_1_method_33_code
def yX7_requireNumber : MethodName := ⟨RX7, "requireNumber", "(III)V"⟩
abbrev cX7_requirePlace : ByteArray := prog_1_method_34_code
def yX7_requirePlace : MethodName := ⟨RX7, "requirePlace", "(II)V"⟩
abbrev cX7_requireLot : ByteArray := prog_1_method_35_code
def yX7_requireLot : MethodName := ⟨RX7, "requireLot", "(I)V"⟩
abbrev cX7_requireCustomerAndBottling : ByteArray := prog_1_method_36_code
def yX7_requireCustomerAndBottling : MethodName := ⟨RX7, "requireCustomerAndBottling", "(II)V"⟩
abbrev cX7_requireLabel : ByteArray := prog_1_method_37_code
def yX7_requireLabel : MethodName := ⟨RX7, "requireLabel", "(IIII)V"⟩
abbrev cX7_requireNoRefusal : ByteArray := prog_1_method_38_code
def yX7_requireNoRefusal : MethodName := ⟨RX7, "requireNoRefusal", "(I)V"⟩
def RX8 : String := "BottlingBookModel"
def TX8 : u_T := fun k => match k with
  | 0 => ("BottlingBookModel", "now", "[I", true)
  | 1 => ("BottlingBookModel", "past", "[I", true)
  | 2 => ("BottlingBookModel", "pastMany", "I", false)
  | 3 => ("BottlingBookModel", "saved", "[I", true)
  | 4 => ("BottlingBookModel", "isSaved", "Z", false)
  | 5 => ("BottlingBookModel", "thrown", "I", false)
  | 6 => ("BottlingBookModel", "reason", "I", false)
  | 7 => ("BottlingBookModel", "errorAt", "I", false)
  | 8 => ("BottlingBookModel", "input", "[C", true)
  | 9 => ("BottlingBookModel", "typed", "I", false)
  | 10 => ("BottlingBookModel", "end", "I", false)
  | 11 => ("BottlingBookModel", "at", "I", false)
  | 12 => ("BottlingBookModel", "isWrong", "Z", false)
  | 13 => ("BottlingBookModel", "told", "I", false)
  | 14 => ("BottlingBookModel", "toldLots", "[I", true)
  | 15 => ("BottlingBookModel", "toldQuarters", "[I", true)
  | 16 => ("BottlingBookModel", "rests", "[I", true)
  | 17 => ("BottlingBookModel", "order", "[I", true)
  | _ => ("BottlingBookModel", "waysTo", "[I", true)
def tyX8 : Nat → FieldType := fun k => match k with
  | 0 => .array .int
  | 1 => .array .int
  | 2 => .int
  | 3 => .array .int
  | 4 => .boolean
  | 5 => .int
  | 6 => .int
  | 7 => .int
  | 8 => .array .char
  | 9 => .int
  | 10 => .int
  | 11 => .int
  | 12 => .boolean
  | 13 => .int
  | 14 => .array .int
  | 15 => .array .int
  | 16 => .array .int
  | 17 => .array .int
  | _ => .array .int
abbrev wsX80 : List Cond := u_ws RX8 TX8 19
theorem nmX8 : ∀ a, a < 19 → ∀ b, b < 19 → a ≠ b → (TX8 a).2.1 ≠ (TX8 b).2.1 := by decide +kernel
theorem tyX8_ok : ∀ k, k < 19 → parseFieldDescriptor (TX8 k).2.2.1 = some (tyX8 k) := by decide +kernel
abbrev cX8_init : ByteArray := prog_10_method_1_code
def yX8_init : MethodName := ⟨RX8, "<init>", "()V"⟩
abbrev cX8_thrown : ByteArray := prog_10_method_2_code
def yX8_thrown : MethodName := ⟨RX8, "thrown", "()I"⟩
abbrev cX8_isIn : ByteArray := prog_10_method_3_code
def yX8_isIn : MethodName := ⟨RX8, "isIn", "(III)Z"⟩
abbrev cX8_fail : ByteArray := prog_10_method_4_code
def yX8_fail : MethodName := ⟨RX8, "fail", "(I)I"⟩
abbrev cX8_refuse : ByteArray := prog_10_method_5_code
def yX8_refuse : MethodName := ⟨RX8, "refuse", "(II)I"⟩
abbrev cX8_remember : ByteArray := prog_10_method_6_code
def yX8_remember : MethodName := ⟨RX8, "remember", "()V"⟩
abbrev cX8_l : ByteArray := prog_10_method_7_code
def yX8_l : MethodName := ⟨RX8, "l", "(II)I"⟩
abbrev cX8_setL : ByteArray := prog_10_method_8_code
def yX8_setL : MethodName := ⟨RX8, "setL", "(III)V"⟩
abbrev cX8_isLot : ByteArray := prog_10_method_9_code
def yX8_isLot : MethodName := ⟨RX8, "isLot", "(I)Z"⟩
abbrev cX8_h : ByteArray := prog_10_method_10_code
def yX8_h : MethodName := ⟨RX8, "h", "(II)I"⟩
abbrev cX8_comes : ByteArray := prog_10_method_11_code
def yX8_comes : MethodName := ⟨RX8, "comes", "(III)I"⟩
abbrev cX8_harvest : ByteArray := prog_10_method_12_code
def yX8_harvest : MethodName := ⟨RX8, "harvest", "(IIII)I"⟩
abbrev cX8_isDigit : ByteArray := prog_10_method_13_code
def yX8_isDigit : MethodName := ⟨RX8, "isDigit", "()Z"⟩
abbrev cX8_number : ByteArray := prog_10_method_14_code
def yX8_number : MethodName := ⟨RX8, "number", "()I"⟩
abbrev cX8_goesOn : ByteArray := prog_10_method_15_code
def yX8_goesOn : MethodName := ⟨RX8, "goesOn", "(C)Z"⟩
abbrev cX8_readsPart : ByteArray := prog_10_method_16_code
def yX8_readsPart : MethodName := ⟨RX8, "readsPart", "()V"⟩
abbrev cX8_reads : ByteArray := prog_10_method_17_code
def yX8_reads : MethodName := ⟨RX8, "reads", "()V"⟩
abbrev cX8_isAnyNothing : ByteArray := prog_10_method_18_code
def yX8_isAnyNothing : MethodName := ⟨RX8, "isAnyNothing", "()Z"⟩
abbrev cX8_areLots : ByteArray := prog_10_method_19_code
def yX8_areLots : MethodName := ⟨RX8, "areLots", "()Z"⟩
abbrev cX8_isEnough : ByteArray := prog_10_method_20_code
def yX8_isEnough : MethodName := ⟨RX8, "isEnough", "()Z"⟩
abbrev cX8_nextGeneration : ByteArray := prog_10_method_21_code
def yX8_nextGeneration : MethodName := ⟨RX8, "nextGeneration", "()I"⟩
abbrev cX8_refusal : ByteArray := prog_10_method_22_code
def yX8_refusal : MethodName := ⟨RX8, "refusal", "()I"⟩
abbrev cX8_findShares : ByteArray := prog_10_method_23_code
def yX8_findShares : MethodName := ⟨RX8, "findShares", "(I)V"⟩
abbrev cX8_blend : ByteArray := prog_10_method_24_code
def yX8_blend : MethodName := ⟨RX8, "blend", "()I"⟩
abbrev cX8_spill : ByteArray := prog_10_method_25_code
def yX8_spill : MethodName := ⟨RX8, "spill", "(II)I"⟩
abbrev cX8_isPartOf : ByteArray := prog_10_method_26_code
def yX8_isPartOf : MethodName := ⟨RX8, "isPartOf", "(II)Z"⟩
abbrev cX8_blendsOf : ByteArray := prog_10_method_27_code
def yX8_blendsOf : MethodName := ⟨RX8, "blendsOf", "(I)I"⟩
abbrev cX8_harvestsIn : ByteArray := prog_10_method_28_code
def yX8_harvestsIn : MethodName := ⟨RX8, "harvestsIn", "(I)I"⟩
abbrev cX8_lot : ByteArray := prog_10_method_29_code
def yX8_lot : MethodName := ⟨RX8, "lot", "(II)I"⟩
abbrev cX8_part : ByteArray := prog_10_method_30_code
def yX8_part : MethodName := ⟨RX8, "part", "(III)I"⟩
abbrev cX8_shareOf : ByteArray := prog_10_method_31_code
def yX8_shareOf : MethodName := ⟨RX8, "shareOf", "(III)I"⟩
abbrev cX8_mostOf : ByteArray := prog_10_method_32_code
def yX8_mostOf : MethodName := ⟨RX8, "mostOf", "(I)I"⟩
abbrev cX8_share : ByteArray := prog_10_method_33_code
def yX8_share : MethodName := ⟨RX8, "share", "(III)I"⟩
abbrev cX8_greatest : ByteArray := prog_10_method_34_code
def yX8_greatest : MethodName := ⟨RX8, "greatest", "(II)I"⟩
abbrev cX8_meanVintage : ByteArray := prog_10_method_35_code
def yX8_meanVintage : MethodName := ⟨RX8, "meanVintage", "(I)D"⟩
abbrev cX8_setLaw : ByteArray := prog_10_method_36_code
def yX8_setLaw : MethodName := ⟨RX8, "setLaw", "(II)I"⟩
abbrev cX8_isLabel : ByteArray := prog_10_method_37_code
def yX8_isLabel : MethodName := ⟨RX8, "isLabel", "(IIII)Z"⟩
abbrev cX8_areGrapesAllowed : ByteArray := prog_10_method_38_code
def yX8_areGrapesAllowed : MethodName := ⟨RX8, "areGrapesAllowed", "(III)Z"⟩
abbrev cX8_forbidding : ByteArray := prog_10_method_39_code
def yX8_forbidding : MethodName := ⟨RX8, "forbidding", "(IIIII)I"⟩
abbrev cX8_bottle : ByteArray := prog_10_method_40_code
def yX8_bottle : MethodName := ⟨RX8, "bottle", "(IIIIII)I"⟩
abbrev cX8_forbids : ByteArray := prog_10_method_41_code
def yX8_forbids : MethodName := ⟨RX8, "forbids", "(IIIII)I"⟩
abbrev cX8_b : ByteArray := prog_10_method_42_code
def yX8_b : MethodName := ⟨RX8, "b", "(II)I"⟩
abbrev cX8_setB : ByteArray := prog_10_method_43_code
def yX8_setB : MethodName := ⟨RX8, "setB", "(III)V"⟩
abbrev cX8_isBottling : ByteArray := prog_10_method_44_code
def yX8_isBottling : MethodName := ⟨RX8, "isBottling", "(I)Z"⟩
abbrev cX8_isAllowedNow : ByteArray := prog_10_method_45_code
def yX8_isAllowedNow : MethodName := ⟨RX8, "isAllowedNow", "(I)Z"⟩
abbrev cX8_bottling : ByteArray := prog_10_method_46_code
def yX8_bottling : MethodName := ⟨RX8, "bottling", "(II)I"⟩
abbrev cX8_reason : ByteArray := prog_10_method_47_code
def yX8_reason : MethodName := ⟨RX8, "reason", "()I"⟩
abbrev cX8_isCustomer : ByteArray := prog_10_method_48_code
def yX8_isCustomer : MethodName := ⟨RX8, "isCustomer", "(I)Z"⟩
abbrev cX8_held : ByteArray := prog_10_method_49_code
def yX8_held : MethodName := ⟨RX8, "held", "(II)I"⟩
abbrev cX8_wished : ByteArray := prog_10_method_50_code
def yX8_wished : MethodName := ⟨RX8, "wished", "(II)I"⟩
abbrev cX8_isListed : ByteArray := prog_10_method_51_code
def yX8_isListed : MethodName := ⟨RX8, "isListed", "(II)Z"⟩
abbrev cX8_listMany : ByteArray := prog_10_method_52_code
def yX8_listMany : MethodName := ⟨RX8, "listMany", "(I)I"⟩
abbrev cX8_isAhead : ByteArray := prog_10_method_53_code
def yX8_isAhead : MethodName := ⟨RX8, "isAhead", "(II)Z"⟩
abbrev cX8_placeOf : ByteArray := prog_10_method_54_code
def yX8_placeOf : MethodName := ⟨RX8, "placeOf", "(II)I"⟩
abbrev cX8_customerAt : ByteArray := prog_10_method_55_code
def yX8_customerAt : MethodName := ⟨RX8, "customerAt", "(II)I"⟩
abbrev cX8_addCustomer : ByteArray := prog_10_method_56_code
def yX8_addCustomer : MethodName := ⟨RX8, "addCustomer", "(I)I"⟩
abbrev cX8_wish : ByteArray := prog_10_method_57_code
def yX8_wish : MethodName := ⟨RX8, "wish", "(III)I"⟩
abbrev cX8_lesser : ByteArray := prog_10_method_58_code
def yX8_lesser : MethodName := ⟨RX8, "lesser", "(II)I"⟩
abbrev cX8_portionOf : ByteArray := prog_10_method_59_code
def yX8_portionOf : MethodName := ⟨RX8, "portionOf", "(I)I"⟩
abbrev cX8_round : ByteArray := prog_10_method_60_code
def yX8_round : MethodName := ⟨RX8, "round", "(I)I"⟩
abbrev cX8_serve : ByteArray := prog_10_method_61_code
def yX8_serve : MethodName := ⟨RX8, "serve", "(I)I"⟩
abbrev cX8_giveBack : ByteArray := prog_10_method_62_code
def yX8_giveBack : MethodName := ⟨RX8, "giveBack", "(III)I"⟩
abbrev cX8_holds : ByteArray := prog_10_method_63_code
def yX8_holds : MethodName := ⟨RX8, "holds", "(III)I"⟩
abbrev cX8_listed : ByteArray := prog_10_method_64_code
def yX8_listed : MethodName := ⟨RX8, "listed", "(II)I"⟩
abbrev cX8_findWays : ByteArray := prog_10_method_65_code
def yX8_findWays : MethodName := ⟨RX8, "findWays", "(I)V"⟩
abbrev cX8_recalling : ByteArray := prog_10_method_66_code
def yX8_recalling : MethodName := ⟨RX8, "recalling", "(I)I"⟩
abbrev cX8_recalled : ByteArray := prog_10_method_67_code
def yX8_recalled : MethodName := ⟨RX8, "recalled", "(I)I"⟩
abbrev cX8_recalledAgain : ByteArray := prog_10_method_68_code
def yX8_recalledAgain : MethodName := ⟨RX8, "recalledAgain", "(I)I"⟩
abbrev cX8_bottlesOf : ByteArray := prog_10_method_69_code
def yX8_bottlesOf : MethodName := ⟨RX8, "bottlesOf", "(II)I"⟩
abbrev cX8_ways : ByteArray := prog_10_method_70_code
def yX8_ways : MethodName := ⟨RX8, "ways", "(II)I"⟩
abbrev cX8_sumOfLots : ByteArray := prog_10_method_71_code
def yX8_sumOfLots : MethodName := ⟨RX8, "sumOfLots", "()I"⟩
abbrev cX8_sumOfHarvests : ByteArray := prog_10_method_72_code
def yX8_sumOfHarvests : MethodName := ⟨RX8, "sumOfHarvests", "()I"⟩
abbrev cX8_sumOfBottles : ByteArray := prog_10_method_73_code
def yX8_sumOfBottles : MethodName := ⟨RX8, "sumOfBottles", "(I)I"⟩
abbrev cX8_sumHeld : ByteArray := prog_10_method_74_code
def yX8_sumHeld : MethodName := ⟨RX8, "sumHeld", "()I"⟩
abbrev cX8_account : ByteArray := prog_10_method_75_code
def yX8_account : MethodName := ⟨RX8, "account", "(I)I"⟩
abbrev cX8_feed : ByteArray := prog_10_method_76_code
def yX8_feed : MethodName := ⟨RX8, "feed", "(C)I"⟩
abbrev cX8_errorPosition : ByteArray := prog_10_method_77_code
def yX8_errorPosition : MethodName := ⟨RX8, "errorPosition", "()I"⟩
abbrev cX8_undo : ByteArray := prog_10_method_78_code
def yX8_undo : MethodName := ⟨RX8, "undo", "()I"⟩
abbrev cX8_save : ByteArray := prog_10_method_79_code
def yX8_save : MethodName := ⟨RX8, "save", "()I"⟩
abbrev cX8_restore : ByteArray := prog_10_method_80_code
def yX8_restore : MethodName := ⟨RX8, "restore", "()I"⟩
def RJx145de : String := "java/io/Serializable"
def TJx145de : u_T := fun k => match k with
  | _ => ("", "", "", false)
def tyJx145de : Nat → FieldType := fun k => match k with
  | _ => .int
abbrev wsJx145de0 : List Cond := u_ws RJx145de TJx145de 0
theorem nmJx145de : ∀ a, a < 0 → ∀ b, b < 0 → a ≠ b → (TJx145de a).2.1 ≠ (TJx145de b).2.1 := by decide +kernel
theorem tyJx145de_ok : ∀ k, k < 0 → parseFieldDescriptor (TJx145de k).2.2.1 = some (tyJx145de k) := by decide +kernel
def RJ6 : String := "java/lang/Integer"
def TJ6 : u_T := fun k => match k with
  | _ => ("", "", "", false)
def tyJ6 : Nat → FieldType := fun k => match k with
  | _ => .int
abbrev wsJ60 : List Cond := u_ws RJ6 TJ6 0
theorem nmJ6 : ∀ a, a < 0 → ∀ b, b < 0 → a ≠ b → (TJ6 a).2.1 ≠ (TJ6 b).2.1 := by decide +kernel
theorem tyJ6_ok : ∀ k, k < 0 → parseFieldDescriptor (TJ6 k).2.2.1 = some (tyJ6 k) := by decide +kernel
abbrev cJ6_bitCount_0f7a4 : ByteArray := prog_16_method_49_code
def yJ6_bitCount_0f7a4 : MethodName := ⟨RJ6, "bitCount", "(I)I"⟩
def RJ9 : String := "java/lang/Math"
def TJ9 : u_T := fun k => match k with
  | _ => ("", "", "", false)
def tyJ9 : Nat → FieldType := fun k => match k with
  | _ => .int
abbrev wsJ90 : List Cond := u_ws RJ9 TJ9 0
theorem nmJ9 : ∀ a, a < 0 → ∀ b, b < 0 → a ≠ b → (TJ9 a).2.1 ≠ (TJ9 b).2.1 := by decide +kernel
theorem tyJ9_ok : ∀ k, k < 0 → parseFieldDescriptor (TJ9 k).2.2.1 = some (tyJ9 k) := by decide +kernel
abbrev cJ9_max_7cf53 : ByteArray := prog_17_method_65_code
def yJ9_max_7cf53 : MethodName := ⟨RJ9, "max", "(II)I"⟩
abbrev cJ9_min_7cf53 : ByteArray := prog_17_method_69_code
def yJ9_min_7cf53 : MethodName := ⟨RJ9, "min", "(II)I"⟩
def RJ0 : String := "java/lang/String"
def TJ0 : u_T := fun k => match k with
  | _ => ("", "", "", false)
def tyJ0 : Nat → FieldType := fun k => match k with
  | _ => .int
abbrev wsJ00 : List Cond := u_ws RJ0 TJ0 0
theorem nmJ0 : ∀ a, a < 0 → ∀ b, b < 0 → a ≠ b → (TJ0 a).2.1 ≠ (TJ0 b).2.1 := by decide +kernel
theorem tyJ0_ok : ∀ k, k < 0 → parseFieldDescriptor (TJ0 k).2.2.1 = some (tyJ0 k) := by decide +kernel
def RJ10 : String := "java/lang/System"
def TJ10 : u_T := fun k => match k with
  | _ => ("", "", "", false)
def tyJ10 : Nat → FieldType := fun k => match k with
  | _ => .int
abbrev wsJ100 : List Cond := u_ws RJ10 TJ10 0
theorem nmJ10 : ∀ a, a < 0 → ∀ b, b < 0 → a ≠ b → (TJ10 a).2.1 ≠ (TJ10 b).2.1 := by decide +kernel
theorem tyJ10_ok : ∀ k, k < 0 → parseFieldDescriptor (TJ10 k).2.2.1 = some (tyJ10 k) := by decide +kernel
def RL : String := "BottlingBookLaw"
abbrev cL_harvest : ByteArray := method_3_code
def yL_harvest : MethodName := ⟨RL, "harvest", "(LBottlingBook;IIII[J)I"⟩
abbrev cL_blend : ByteArray := method_4_code
def yL_blend : MethodName := ⟨RL, "blend", "(LBottlingBook;[J)I"⟩
abbrev cL_spill : ByteArray := method_5_code
def yL_spill : MethodName := ⟨RL, "spill", "(LBottlingBook;II[J)I"⟩
abbrev cL_lot : ByteArray := method_6_code
def yL_lot : MethodName := ⟨RL, "lot", "(LBottlingBook;II[J)I"⟩
abbrev cL_part : ByteArray := method_7_code
def yL_part : MethodName := ⟨RL, "part", "(LBottlingBook;III[J)I"⟩
abbrev cL_share : ByteArray := method_8_code
def yL_share : MethodName := ⟨RL, "share", "(LBottlingBook;III[J)I"⟩
abbrev cL_greatest : ByteArray := method_9_code
def yL_greatest : MethodName := ⟨RL, "greatest", "(LBottlingBook;II[J)I"⟩
abbrev cL_meanVintage : ByteArray := method_10_code
def yL_meanVintage : MethodName := ⟨RL, "meanVintage", "(LBottlingBook;I[D)I"⟩
abbrev cL_setLaw : ByteArray := method_11_code
def yL_setLaw : MethodName := ⟨RL, "setLaw", "(LBottlingBook;II[J)I"⟩
abbrev cL_bottle : ByteArray := method_12_code
def yL_bottle : MethodName := ⟨RL, "bottle", "(LBottlingBook;IIIIII[J)I"⟩
abbrev cL_forbids : ByteArray := method_13_code
def yL_forbids : MethodName := ⟨RL, "forbids", "(LBottlingBook;IIIII[J)I"⟩
abbrev cL_bottling : ByteArray := method_14_code
def yL_bottling : MethodName := ⟨RL, "bottling", "(LBottlingBook;II[J)I"⟩
abbrev cL_reason : ByteArray := method_15_code
def yL_reason : MethodName := ⟨RL, "reason", "(LBottlingBook;[J)I"⟩
abbrev cL_addCustomer : ByteArray := method_16_code
def yL_addCustomer : MethodName := ⟨RL, "addCustomer", "(LBottlingBook;I[J)I"⟩
abbrev cL_wish : ByteArray := method_17_code
def yL_wish : MethodName := ⟨RL, "wish", "(LBottlingBook;III[J)I"⟩
abbrev cL_serve : ByteArray := method_18_code
def yL_serve : MethodName := ⟨RL, "serve", "(LBottlingBook;I[J)I"⟩
abbrev cL_giveBack : ByteArray := method_19_code
def yL_giveBack : MethodName := ⟨RL, "giveBack", "(LBottlingBook;III[J)I"⟩
abbrev cL_holds : ByteArray := method_20_code
def yL_holds : MethodName := ⟨RL, "holds", "(LBottlingBook;III[J)I"⟩
abbrev cL_listed : ByteArray := method_21_code
def yL_listed : MethodName := ⟨RL, "listed", "(LBottlingBook;II[J)I"⟩
abbrev cL_recalled : ByteArray := method_22_code
def yL_recalled : MethodName := ⟨RL, "recalled", "(LBottlingBook;I[J)I"⟩
abbrev cL_recalledAgain : ByteArray := method_23_code
def yL_recalledAgain : MethodName := ⟨RL, "recalledAgain", "(LBottlingBook;I[J)I"⟩
abbrev cL_bottlesOf : ByteArray := method_24_code
def yL_bottlesOf : MethodName := ⟨RL, "bottlesOf", "(LBottlingBook;II[J)I"⟩
abbrev cL_ways : ByteArray := method_25_code
def yL_ways : MethodName := ⟨RL, "ways", "(LBottlingBook;II[J)I"⟩
abbrev cL_account : ByteArray := method_26_code
def yL_account : MethodName := ⟨RL, "account", "(LBottlingBook;I[J)I"⟩
abbrev cL_feed : ByteArray := method_27_code
def yL_feed : MethodName := ⟨RL, "feed", "(LBottlingBook;C[J)I"⟩
abbrev cL_errorPosition : ByteArray := method_28_code
def yL_errorPosition : MethodName := ⟨RL, "errorPosition", "(LBottlingBook;[J)I"⟩
abbrev cL_undo : ByteArray := method_29_code
def yL_undo : MethodName := ⟨RL, "undo", "(LBottlingBook;[J)I"⟩
abbrev cL_restore : ByteArray := method_30_code
def yL_restore : MethodName := ⟨RL, "restore", "(LBottlingBook;[J)I"⟩
abbrev cL_law : ByteArray := code
def yL_law : MethodName := ⟨RL, "law", "([I)Z"⟩
abbrev vwCl : List vw_C := [(RX0, TX0, 2), (RX1, TX1, 4), (RX2, TX2, 3), (RX3, TX3, 6), (RX4, TX4, 8), (RX5, TX5, 4), (RX6, TX6, 3), (RX7, TX7, 10), (RX8, TX8, 19)]
end
section
theorem dX0_init_0 : decode cX0_init 0 = .ok (.aload_n 0, 1) := by decide +kernel
theorem dX0_init_1 : decode cX0_init 1 = .ok (.invokespecial 3, 3) := by decide +kernel
theorem dX0_init_4 : decode cX0_init 4 = .ok (.aload_n 0, 1) := by decide +kernel
theorem dX0_init_5 : decode cX0_init 5 = .ok (.new 9, 3) := by decide +kernel
theorem dX0_init_8 : decode cX0_init 8 = .ok (.dup, 1) := by decide +kernel
theorem dX0_init_9 : decode cX0_init 9 = .ok (.bipush 16, 2) := by decide +kernel
theorem dX0_init_11 : decode cX0_init 11 = .ok (.bipush 7, 2) := by decide +kernel
theorem dX0_init_13 : decode cX0_init 13 = .ok (.invokespecial 11, 3) := by decide +kernel
theorem dX0_init_16 : decode cX0_init 16 = .ok (.putfield 14, 3) := by decide +kernel
theorem dX0_init_19 : decode cX0_init 19 = .ok (.aload_n 0, 1) := by decide +kernel
theorem dX0_init_20 : decode cX0_init 20 = .ok (.iconst 0, 1) := by decide +kernel
theorem dX0_init_21 : decode cX0_init 21 = .ok (.putfield 20, 3) := by decide +kernel
theorem dX0_init_24 : decode cX0_init 24 = .ok (.return_, 1) := by decide +kernel
theorem dX0_copyFrom_0 : decode cX0_copyFrom 0 = .ok (.aload_n 0, 1) := by decide +kernel
theorem dX0_copyFrom_1 : decode cX0_copyFrom 1 = .ok (.getfield 14, 3) := by decide +kernel
theorem dX0_copyFrom_4 : decode cX0_copyFrom 4 = .ok (.aload_n 1, 1) := by decide +kernel
theorem dX0_copyFrom_5 : decode cX0_copyFrom 5 = .ok (.getfield 14, 3) := by decide +kernel
theorem dX0_copyFrom_8 : decode cX0_copyFrom 8 = .ok (.invokevirtual 24, 3) := by decide +kernel
theorem dX0_copyFrom_11 : decode cX0_copyFrom 11 = .ok (.aload_n 0, 1) := by decide +kernel
theorem dX0_copyFrom_12 : decode cX0_copyFrom 12 = .ok (.aload_n 1, 1) := by decide +kernel
theorem dX0_copyFrom_13 : decode cX0_copyFrom 13 = .ok (.getfield 20, 3) := by decide +kernel
theorem dX0_copyFrom_16 : decode cX0_copyFrom 16 = .ok (.putfield 20, 3) := by decide +kernel
theorem dX0_copyFrom_19 : decode cX0_copyFrom 19 = .ok (.return_, 1) := by decide +kernel
theorem dX0_fill_0 : decode cX0_fill 0 = .ok (.aload_n 0, 1) := by decide +kernel
theorem dX0_fill_1 : decode cX0_fill 1 = .ok (.getfield 20, 3) := by decide +kernel
theorem dX0_fill_4 : decode cX0_fill 4 = .ok (.istore_n 3, 1) := by decide +kernel
theorem dX0_fill_5 : decode cX0_fill 5 = .ok (.aload_n 0, 1) := by decide +kernel
theorem dX0_fill_6 : decode cX0_fill 6 = .ok (.getfield 14, 3) := by decide +kernel
theorem dX0_fill_9 : decode cX0_fill 9 = .ok (.iload_n 3, 1) := by decide +kernel
theorem dX0_fill_10 : decode cX0_fill 10 = .ok (.iconst 0, 1) := by decide +kernel
theorem dX0_fill_11 : decode cX0_fill 11 = .ok (.iload_n 1, 1) := by decide +kernel
theorem dX0_fill_12 : decode cX0_fill 12 = .ok (.invokevirtual 28, 3) := by decide +kernel
theorem dX0_fill_15 : decode cX0_fill 15 = .ok (.aload_n 0, 1) := by decide +kernel
theorem dX0_fill_16 : decode cX0_fill 16 = .ok (.getfield 14, 3) := by decide +kernel
theorem dX0_fill_19 : decode cX0_fill 19 = .ok (.iload_n 3, 1) := by decide +kernel
theorem dX0_fill_20 : decode cX0_fill 20 = .ok (.iconst 1, 1) := by decide +kernel
theorem dX0_fill_21 : decode cX0_fill 21 = .ok (.iload_n 2, 1) := by decide +kernel
theorem dX0_fill_22 : decode cX0_fill 22 = .ok (.invokevirtual 28, 3) := by decide +kernel
theorem dX0_fill_25 : decode cX0_fill 25 = .ok (.aload_n 0, 1) := by decide +kernel
theorem dX0_fill_26 : decode cX0_fill 26 = .ok (.getfield 14, 3) := by decide +kernel
theorem dX0_fill_29 : decode cX0_fill 29 = .ok (.iload_n 3, 1) := by decide +kernel
theorem dX0_fill_30 : decode cX0_fill 30 = .ok (.iconst 2, 1) := by decide +kernel
theorem dX0_fill_31 : decode cX0_fill 31 = .ok (.iload_n 2, 1) := by decide +kernel
theorem dX0_fill_32 : decode cX0_fill 32 = .ok (.invokevirtual 28, 3) := by decide +kernel
theorem dX0_fill_35 : decode cX0_fill 35 = .ok (.aload_n 0, 1) := by decide +kernel
theorem dX0_fill_36 : decode cX0_fill 36 = .ok (.dup, 1) := by decide +kernel
theorem dX0_fill_37 : decode cX0_fill 37 = .ok (.getfield 20, 3) := by decide +kernel
theorem dX0_fill_40 : decode cX0_fill 40 = .ok (.iconst 1, 1) := by decide +kernel
theorem dX0_fill_41 : decode cX0_fill 41 = .ok (.iadd, 1) := by decide +kernel
theorem dX0_fill_42 : decode cX0_fill 42 = .ok (.putfield 20, 3) := by decide +kernel
theorem dX0_fill_45 : decode cX0_fill 45 = .ok (.iload_n 3, 1) := by decide +kernel
theorem dX0_fill_46 : decode cX0_fill 46 = .ok (.ireturn, 1) := by decide +kernel
theorem dX0_putLabel_0 : decode cX0_putLabel 0 = .ok (.aload_n 0, 1) := by decide +kernel
theorem dX0_putLabel_1 : decode cX0_putLabel 1 = .ok (.getfield 14, 3) := by decide +kernel
theorem dX0_putLabel_4 : decode cX0_putLabel 4 = .ok (.iload_n 1, 1) := by decide +kernel
theorem dX0_putLabel_5 : decode cX0_putLabel 5 = .ok (.iconst 3, 1) := by decide +kernel
theorem dX0_putLabel_6 : decode cX0_putLabel 6 = .ok (.iload_n 2, 1) := by decide +kernel
theorem dX0_putLabel_7 : decode cX0_putLabel 7 = .ok (.invokevirtual 28, 3) := by decide +kernel
theorem dX0_putLabel_10 : decode cX0_putLabel 10 = .ok (.aload_n 0, 1) := by decide +kernel
theorem dX0_putLabel_11 : decode cX0_putLabel 11 = .ok (.getfield 14, 3) := by decide +kernel
theorem dX0_putLabel_14 : decode cX0_putLabel 14 = .ok (.iload_n 1, 1) := by decide +kernel
theorem dX0_putLabel_15 : decode cX0_putLabel 15 = .ok (.iconst 4, 1) := by decide +kernel
theorem dX0_putLabel_16 : decode cX0_putLabel 16 = .ok (.iload_n 3, 1) := by decide +kernel
theorem dX0_putLabel_17 : decode cX0_putLabel 17 = .ok (.invokevirtual 28, 3) := by decide +kernel
theorem dX0_putLabel_20 : decode cX0_putLabel 20 = .ok (.aload_n 0, 1) := by decide +kernel
theorem dX0_putLabel_21 : decode cX0_putLabel 21 = .ok (.getfield 14, 3) := by decide +kernel
theorem dX0_putLabel_24 : decode cX0_putLabel 24 = .ok (.iload_n 1, 1) := by decide +kernel
theorem dX0_putLabel_25 : decode cX0_putLabel 25 = .ok (.iconst 5, 1) := by decide +kernel
theorem dX0_putLabel_26 : decode cX0_putLabel 26 = .ok (.iload 4, 2) := by decide +kernel
theorem dX0_putLabel_28 : decode cX0_putLabel 28 = .ok (.invokevirtual 28, 3) := by decide +kernel
theorem dX0_putLabel_31 : decode cX0_putLabel 31 = .ok (.aload_n 0, 1) := by decide +kernel
theorem dX0_putLabel_32 : decode cX0_putLabel 32 = .ok (.getfield 14, 3) := by decide +kernel
theorem dX0_putLabel_35 : decode cX0_putLabel 35 = .ok (.iload_n 1, 1) := by decide +kernel
theorem dX0_putLabel_36 : decode cX0_putLabel 36 = .ok (.bipush 6, 2) := by decide +kernel
theorem dX0_putLabel_38 : decode cX0_putLabel 38 = .ok (.iload 5, 2) := by decide +kernel
theorem dX0_putLabel_40 : decode cX0_putLabel 40 = .ok (.invokevirtual 28, 3) := by decide +kernel
theorem dX0_putLabel_43 : decode cX0_putLabel 43 = .ok (.return_, 1) := by decide +kernel
theorem dX0_lotOf_0 : decode cX0_lotOf 0 = .ok (.aload_n 0, 1) := by decide +kernel
theorem dX0_lotOf_1 : decode cX0_lotOf 1 = .ok (.getfield 14, 3) := by decide +kernel
theorem dX0_lotOf_4 : decode cX0_lotOf 4 = .ok (.iload_n 1, 1) := by decide +kernel
theorem dX0_lotOf_5 : decode cX0_lotOf 5 = .ok (.iconst 0, 1) := by decide +kernel
theorem dX0_lotOf_6 : decode cX0_lotOf 6 = .ok (.invokevirtual 32, 3) := by decide +kernel
theorem dX0_lotOf_9 : decode cX0_lotOf 9 = .ok (.ireturn, 1) := by decide +kernel
theorem dX0_stockOf_0 : decode cX0_stockOf 0 = .ok (.aload_n 0, 1) := by decide +kernel
theorem dX0_stockOf_1 : decode cX0_stockOf 1 = .ok (.getfield 14, 3) := by decide +kernel
theorem dX0_stockOf_4 : decode cX0_stockOf 4 = .ok (.iload_n 1, 1) := by decide +kernel
theorem dX0_stockOf_5 : decode cX0_stockOf 5 = .ok (.iconst 2, 1) := by decide +kernel
theorem dX0_stockOf_6 : decode cX0_stockOf 6 = .ok (.invokevirtual 32, 3) := by decide +kernel
theorem dX0_stockOf_9 : decode cX0_stockOf 9 = .ok (.ireturn, 1) := by decide +kernel
theorem dX0_addToStock_0 : decode cX0_addToStock 0 = .ok (.aload_n 0, 1) := by decide +kernel
theorem dX0_addToStock_1 : decode cX0_addToStock 1 = .ok (.getfield 14, 3) := by decide +kernel
theorem dX0_addToStock_4 : decode cX0_addToStock 4 = .ok (.iload_n 1, 1) := by decide +kernel
theorem dX0_addToStock_5 : decode cX0_addToStock 5 = .ok (.iconst 2, 1) := by decide +kernel
theorem dX0_addToStock_6 : decode cX0_addToStock 6 = .ok (.iload_n 2, 1) := by decide +kernel
theorem dX0_addToStock_7 : decode cX0_addToStock 7 = .ok (.invokevirtual 36, 3) := by decide +kernel
theorem dX0_addToStock_10 : decode cX0_addToStock 10 = .ok (.return_, 1) := by decide +kernel
theorem dX0_ofLots_0 : decode cX0_ofLots 0 = .ok (.iconst 0, 1) := by decide +kernel
theorem dX0_ofLots_1 : decode cX0_ofLots 1 = .ok (.istore_n 2, 1) := by decide +kernel
theorem dX0_ofLots_2 : decode cX0_ofLots 2 = .ok (.iconst 0, 1) := by decide +kernel
theorem dX0_ofLots_3 : decode cX0_ofLots 3 = .ok (.istore_n 3, 1) := by decide +kernel
theorem dX0_ofLots_4 : decode cX0_ofLots 4 = .ok (.iload_n 3, 1) := by decide +kernel
theorem dX0_ofLots_5 : decode cX0_ofLots 5 = .ok (.aload_n 0, 1) := by decide +kernel
theorem dX0_ofLots_6 : decode cX0_ofLots 6 = .ok (.getfield 20, 3) := by decide +kernel
theorem dX0_ofLots_9 : decode cX0_ofLots 9 = .ok (.if_icmp .ge 27, 3) := by decide +kernel
theorem dX0_ofLots_12 : decode cX0_ofLots 12 = .ok (.iload_n 1, 1) := by decide +kernel
theorem dX0_ofLots_13 : decode cX0_ofLots 13 = .ok (.aload_n 0, 1) := by decide +kernel
theorem dX0_ofLots_14 : decode cX0_ofLots 14 = .ok (.iload_n 3, 1) := by decide +kernel
theorem dX0_ofLots_15 : decode cX0_ofLots 15 = .ok (.invokevirtual 39, 3) := by decide +kernel
theorem dX0_ofLots_18 : decode cX0_ofLots 18 = .ok (.invokestatic 43, 3) := by decide +kernel
theorem dX0_ofLots_21 : decode cX0_ofLots 21 = .ok (.ifCond .eq 9, 3) := by decide +kernel
theorem dX0_ofLots_24 : decode cX0_ofLots 24 = .ok (.iload_n 2, 1) := by decide +kernel
theorem dX0_ofLots_25 : decode cX0_ofLots 25 = .ok (.iconst 1, 1) := by decide +kernel
theorem dX0_ofLots_26 : decode cX0_ofLots 26 = .ok (.iload_n 3, 1) := by decide +kernel
theorem dX0_ofLots_27 : decode cX0_ofLots 27 = .ok (.ishl, 1) := by decide +kernel
theorem dX0_ofLots_28 : decode cX0_ofLots 28 = .ok (.ior, 1) := by decide +kernel
theorem dX0_ofLots_29 : decode cX0_ofLots 29 = .ok (.istore_n 2, 1) := by decide +kernel
theorem dX0_ofLots_30 : decode cX0_ofLots 30 = .ok (.iinc 3 1, 3) := by decide +kernel
theorem dX0_ofLots_33 : decode cX0_ofLots 33 = .ok (.goto (-29), 3) := by decide +kernel
theorem dX0_ofLots_36 : decode cX0_ofLots 36 = .ok (.iload_n 2, 1) := by decide +kernel
theorem dX0_ofLots_37 : decode cX0_ofLots 37 = .ok (.ireturn, 1) := by decide +kernel
theorem dX0_stockOfAll_0 : decode cX0_stockOfAll 0 = .ok (.iconst 0, 1) := by decide +kernel
theorem dX0_stockOfAll_1 : decode cX0_stockOfAll 1 = .ok (.istore_n 2, 1) := by decide +kernel
theorem dX0_stockOfAll_2 : decode cX0_stockOfAll 2 = .ok (.iconst 0, 1) := by decide +kernel
theorem dX0_stockOfAll_3 : decode cX0_stockOfAll 3 = .ok (.istore_n 3, 1) := by decide +kernel
theorem dX0_stockOfAll_4 : decode cX0_stockOfAll 4 = .ok (.iload_n 3, 1) := by decide +kernel
theorem dX0_stockOfAll_5 : decode cX0_stockOfAll 5 = .ok (.aload_n 0, 1) := by decide +kernel
theorem dX0_stockOfAll_6 : decode cX0_stockOfAll 6 = .ok (.getfield 20, 3) := by decide +kernel
theorem dX0_stockOfAll_9 : decode cX0_stockOfAll 9 = .ok (.if_icmp .ge 25, 3) := by decide +kernel
theorem dX0_stockOfAll_12 : decode cX0_stockOfAll 12 = .ok (.iload_n 1, 1) := by decide +kernel
theorem dX0_stockOfAll_13 : decode cX0_stockOfAll 13 = .ok (.iload_n 3, 1) := by decide +kernel
theorem dX0_stockOfAll_14 : decode cX0_stockOfAll 14 = .ok (.invokestatic 43, 3) := by decide +kernel
theorem dX0_stockOfAll_17 : decode cX0_stockOfAll 17 = .ok (.ifCond .eq 11, 3) := by decide +kernel
theorem dX0_stockOfAll_20 : decode cX0_stockOfAll 20 = .ok (.iload_n 2, 1) := by decide +kernel
theorem dX0_stockOfAll_21 : decode cX0_stockOfAll 21 = .ok (.aload_n 0, 1) := by decide +kernel
theorem dX0_stockOfAll_22 : decode cX0_stockOfAll 22 = .ok (.iload_n 3, 1) := by decide +kernel
theorem dX0_stockOfAll_23 : decode cX0_stockOfAll 23 = .ok (.invokevirtual 47, 3) := by decide +kernel
theorem dX0_stockOfAll_26 : decode cX0_stockOfAll 26 = .ok (.iadd, 1) := by decide +kernel
theorem dX0_stockOfAll_27 : decode cX0_stockOfAll 27 = .ok (.istore_n 2, 1) := by decide +kernel
theorem dX0_stockOfAll_28 : decode cX0_stockOfAll 28 = .ok (.iinc 3 1, 3) := by decide +kernel
theorem dX0_stockOfAll_31 : decode cX0_stockOfAll 31 = .ok (.goto (-27), 3) := by decide +kernel
theorem dX0_stockOfAll_34 : decode cX0_stockOfAll 34 = .ok (.iload_n 2, 1) := by decide +kernel
theorem dX0_stockOfAll_35 : decode cX0_stockOfAll 35 = .ok (.ireturn, 1) := by decide +kernel
theorem dX0_bottledQuarters_0 : decode cX0_bottledQuarters 0 = .ok (.aload_n 0, 1) := by decide +kernel
theorem dX0_bottledQuarters_1 : decode cX0_bottledQuarters 1 = .ok (.getfield 14, 3) := by decide +kernel
theorem dX0_bottledQuarters_4 : decode cX0_bottledQuarters 4 = .ok (.iconst 1, 1) := by decide +kernel
theorem dX0_bottledQuarters_5 : decode cX0_bottledQuarters 5 = .ok (.invokevirtual 50, 3) := by decide +kernel
theorem dX0_bottledQuarters_8 : decode cX0_bottledQuarters 8 = .ok (.iconst 3, 1) := by decide +kernel
theorem dX0_bottledQuarters_9 : decode cX0_bottledQuarters 9 = .ok (.imul, 1) := by decide +kernel
theorem dX0_bottledQuarters_10 : decode cX0_bottledQuarters 10 = .ok (.ireturn, 1) := by decide +kernel
theorem dX1_init_0 : decode cX1_init 0 = .ok (.aload_n 0, 1) := by decide +kernel
theorem dX1_init_1 : decode cX1_init 1 = .ok (.invokespecial 3, 3) := by decide +kernel
theorem dX1_init_4 : decode cX1_init 4 = .ok (.aload_n 0, 1) := by decide +kernel
theorem dX1_init_5 : decode cX1_init 5 = .ok (.new 9, 3) := by decide +kernel
theorem dX1_init_8 : decode cX1_init 8 = .ok (.dup, 1) := by decide +kernel
theorem dX1_init_9 : decode cX1_init 9 = .ok (.bipush 8, 2) := by decide +kernel
theorem dX1_init_11 : decode cX1_init 11 = .ok (.iconst 1, 1) := by decide +kernel
theorem dX1_init_12 : decode cX1_init 12 = .ok (.invokespecial 11, 3) := by decide +kernel
theorem dX1_init_15 : decode cX1_init 15 = .ok (.putfield 14, 3) := by decide +kernel
theorem dX1_init_18 : decode cX1_init 18 = .ok (.aload_n 0, 1) := by decide +kernel
theorem dX1_init_19 : decode cX1_init 19 = .ok (.new 9, 3) := by decide +kernel
theorem dX1_init_22 : decode cX1_init 22 = .ok (.dup, 1) := by decide +kernel
theorem dX1_init_23 : decode cX1_init 23 = .ok (.bipush 8, 2) := by decide +kernel
theorem dX1_init_25 : decode cX1_init 25 = .ok (.bipush 16, 2) := by decide +kernel
theorem dX1_init_27 : decode cX1_init 27 = .ok (.invokespecial 11, 3) := by decide +kernel
theorem dX1_init_30 : decode cX1_init 30 = .ok (.putfield 20, 3) := by decide +kernel
theorem dX1_init_33 : decode cX1_init 33 = .ok (.aload_n 0, 1) := by decide +kernel
theorem dX1_init_34 : decode cX1_init 34 = .ok (.new 9, 3) := by decide +kernel
theorem dX1_init_37 : decode cX1_init 37 = .ok (.dup, 1) := by decide +kernel
theorem dX1_init_38 : decode cX1_init 38 = .ok (.bipush 8, 2) := by decide +kernel
theorem dX1_init_40 : decode cX1_init 40 = .ok (.bipush 16, 2) := by decide +kernel
theorem dX1_init_42 : decode cX1_init 42 = .ok (.invokespecial 11, 3) := by decide +kernel
theorem dX1_init_45 : decode cX1_init 45 = .ok (.putfield 23, 3) := by decide +kernel
theorem dX1_init_48 : decode cX1_init 48 = .ok (.aload_n 0, 1) := by decide +kernel
theorem dX1_init_49 : decode cX1_init 49 = .ok (.iconst 0, 1) := by decide +kernel
theorem dX1_init_50 : decode cX1_init 50 = .ok (.putfield 26, 3) := by decide +kernel
theorem dX1_init_53 : decode cX1_init 53 = .ok (.return_, 1) := by decide +kernel
theorem dX1_copyFrom_0 : decode cX1_copyFrom 0 = .ok (.aload_n 0, 1) := by decide +kernel
theorem dX1_copyFrom_1 : decode cX1_copyFrom 1 = .ok (.getfield 14, 3) := by decide +kernel
theorem dX1_copyFrom_4 : decode cX1_copyFrom 4 = .ok (.aload_n 1, 1) := by decide +kernel
theorem dX1_copyFrom_5 : decode cX1_copyFrom 5 = .ok (.getfield 14, 3) := by decide +kernel
theorem dX1_copyFrom_8 : decode cX1_copyFrom 8 = .ok (.invokevirtual 30, 3) := by decide +kernel
theorem dX1_copyFrom_11 : decode cX1_copyFrom 11 = .ok (.aload_n 0, 1) := by decide +kernel
theorem dX1_copyFrom_12 : decode cX1_copyFrom 12 = .ok (.getfield 20, 3) := by decide +kernel
theorem dX1_copyFrom_15 : decode cX1_copyFrom 15 = .ok (.aload_n 1, 1) := by decide +kernel
theorem dX1_copyFrom_16 : decode cX1_copyFrom 16 = .ok (.getfield 20, 3) := by decide +kernel
theorem dX1_copyFrom_19 : decode cX1_copyFrom 19 = .ok (.invokevirtual 30, 3) := by decide +kernel
theorem dX1_copyFrom_22 : decode cX1_copyFrom 22 = .ok (.aload_n 0, 1) := by decide +kernel
theorem dX1_copyFrom_23 : decode cX1_copyFrom 23 = .ok (.getfield 23, 3) := by decide +kernel
theorem dX1_copyFrom_26 : decode cX1_copyFrom 26 = .ok (.aload_n 1, 1) := by decide +kernel
theorem dX1_copyFrom_27 : decode cX1_copyFrom 27 = .ok (.getfield 23, 3) := by decide +kernel
theorem dX1_copyFrom_30 : decode cX1_copyFrom 30 = .ok (.invokevirtual 30, 3) := by decide +kernel
theorem dX1_copyFrom_33 : decode cX1_copyFrom 33 = .ok (.aload_n 0, 1) := by decide +kernel
theorem dX1_copyFrom_34 : decode cX1_copyFrom 34 = .ok (.aload_n 1, 1) := by decide +kernel
theorem dX1_copyFrom_35 : decode cX1_copyFrom 35 = .ok (.getfield 26, 3) := by decide +kernel
theorem dX1_copyFrom_38 : decode cX1_copyFrom 38 = .ok (.putfield 26, 3) := by decide +kernel
theorem dX1_copyFrom_41 : decode cX1_copyFrom 41 = .ok (.return_, 1) := by decide +kernel
theorem dX1_enter_0 : decode cX1_enter 0 = .ok (.aload_n 0, 1) := by decide +kernel
theorem dX1_enter_1 : decode cX1_enter 1 = .ok (.getfield 26, 3) := by decide +kernel
theorem dX1_enter_4 : decode cX1_enter 4 = .ok (.istore_n 2, 1) := by decide +kernel
theorem dX1_enter_5 : decode cX1_enter 5 = .ok (.aload_n 0, 1) := by decide +kernel
theorem dX1_enter_6 : decode cX1_enter 6 = .ok (.getfield 14, 3) := by decide +kernel
theorem dX1_enter_9 : decode cX1_enter 9 = .ok (.iload_n 2, 1) := by decide +kernel
theorem dX1_enter_10 : decode cX1_enter 10 = .ok (.iconst 0, 1) := by decide +kernel
theorem dX1_enter_11 : decode cX1_enter 11 = .ok (.iload_n 1, 1) := by decide +kernel
theorem dX1_enter_12 : decode cX1_enter 12 = .ok (.invokevirtual 34, 3) := by decide +kernel
theorem dX1_enter_15 : decode cX1_enter 15 = .ok (.aload_n 0, 1) := by decide +kernel
theorem dX1_enter_16 : decode cX1_enter 16 = .ok (.dup, 1) := by decide +kernel
theorem dX1_enter_17 : decode cX1_enter 17 = .ok (.getfield 26, 3) := by decide +kernel
theorem dX1_enter_20 : decode cX1_enter 20 = .ok (.iconst 1, 1) := by decide +kernel
theorem dX1_enter_21 : decode cX1_enter 21 = .ok (.iadd, 1) := by decide +kernel
theorem dX1_enter_22 : decode cX1_enter 22 = .ok (.putfield 26, 3) := by decide +kernel
theorem dX1_enter_25 : decode cX1_enter 25 = .ok (.iload_n 2, 1) := by decide +kernel
theorem dX1_enter_26 : decode cX1_enter 26 = .ok (.ireturn, 1) := by decide +kernel
theorem dX1_missingTo_0 : decode cX1_missingTo 0 = .ok (.iconst 0, 1) := by decide +kernel
theorem dX1_missingTo_1 : decode cX1_missingTo 1 = .ok (.aload_n 0, 1) := by decide +kernel
theorem dX1_missingTo_2 : decode cX1_missingTo 2 = .ok (.getfield 23, 3) := by decide +kernel
theorem dX1_missingTo_5 : decode cX1_missingTo 5 = .ok (.iload_n 1, 1) := by decide +kernel
theorem dX1_missingTo_6 : decode cX1_missingTo 6 = .ok (.iload_n 2, 1) := by decide +kernel
theorem dX1_missingTo_7 : decode cX1_missingTo 7 = .ok (.invokevirtual 38, 3) := by decide +kernel
theorem dX1_missingTo_10 : decode cX1_missingTo 10 = .ok (.aload_n 0, 1) := by decide +kernel
theorem dX1_missingTo_11 : decode cX1_missingTo 11 = .ok (.getfield 20, 3) := by decide +kernel
theorem dX1_missingTo_14 : decode cX1_missingTo 14 = .ok (.iload_n 1, 1) := by decide +kernel
theorem dX1_missingTo_15 : decode cX1_missingTo 15 = .ok (.iload_n 2, 1) := by decide +kernel
theorem dX1_missingTo_16 : decode cX1_missingTo 16 = .ok (.invokevirtual 38, 3) := by decide +kernel
theorem dX1_missingTo_19 : decode cX1_missingTo 19 = .ok (.isub, 1) := by decide +kernel
theorem dX1_missingTo_20 : decode cX1_missingTo 20 = .ok (.invokestatic 42, 3) := by decide +kernel
theorem dX1_missingTo_23 : decode cX1_missingTo 23 = .ok (.ireturn, 1) := by decide +kernel
theorem dX1_portionOf_0 : decode cX1_portionOf 0 = .ok (.aload_n 0, 1) := by decide +kernel
theorem dX1_portionOf_1 : decode cX1_portionOf 1 = .ok (.getfield 14, 3) := by decide +kernel
theorem dX1_portionOf_4 : decode cX1_portionOf 4 = .ok (.iload_n 1, 1) := by decide +kernel
theorem dX1_portionOf_5 : decode cX1_portionOf 5 = .ok (.iconst 0, 1) := by decide +kernel
theorem dX1_portionOf_6 : decode cX1_portionOf 6 = .ok (.invokevirtual 38, 3) := by decide +kernel
theorem dX1_portionOf_9 : decode cX1_portionOf 9 = .ok (.lookupswitch 33 #[(0, 27), (1, 30)], 27) := by decide +kernel
theorem dX1_portionOf_36 : decode cX1_portionOf 36 = .ok (.bipush 12, 2) := by decide +kernel
theorem dX1_portionOf_38 : decode cX1_portionOf 38 = .ok (.ireturn, 1) := by decide +kernel
theorem dX1_portionOf_39 : decode cX1_portionOf 39 = .ok (.bipush 6, 2) := by decide +kernel
theorem dX1_portionOf_41 : decode cX1_portionOf 41 = .ok (.ireturn, 1) := by decide +kernel
theorem dX1_portionOf_42 : decode cX1_portionOf 42 = .ok (.iconst 3, 1) := by decide +kernel
theorem dX1_portionOf_43 : decode cX1_portionOf 43 = .ok (.ireturn, 1) := by decide +kernel
theorem dX1_lineUp_0 : decode cX1_lineUp 0 = .ok (.iconst 0, 1) := by decide +kernel
theorem dX1_lineUp_1 : decode cX1_lineUp 1 = .ok (.istore_n 3, 1) := by decide +kernel
theorem dX1_lineUp_2 : decode cX1_lineUp 2 = .ok (.iconst 0, 1) := by decide +kernel
theorem dX1_lineUp_3 : decode cX1_lineUp 3 = .ok (.istore 4, 2) := by decide +kernel
theorem dX1_lineUp_5 : decode cX1_lineUp 5 = .ok (.iload 4, 2) := by decide +kernel
theorem dX1_lineUp_7 : decode cX1_lineUp 7 = .ok (.iconst 3, 1) := by decide +kernel
theorem dX1_lineUp_8 : decode cX1_lineUp 8 = .ok (.if_icmp .ge 63, 3) := by decide +kernel
theorem dX1_lineUp_11 : decode cX1_lineUp 11 = .ok (.iconst 0, 1) := by decide +kernel
theorem dX1_lineUp_12 : decode cX1_lineUp 12 = .ok (.istore 5, 2) := by decide +kernel
theorem dX1_lineUp_14 : decode cX1_lineUp 14 = .ok (.iload 5, 2) := by decide +kernel
theorem dX1_lineUp_16 : decode cX1_lineUp 16 = .ok (.aload_n 0, 1) := by decide +kernel
theorem dX1_lineUp_17 : decode cX1_lineUp 17 = .ok (.getfield 26, 3) := by decide +kernel
theorem dX1_lineUp_20 : decode cX1_lineUp 20 = .ok (.if_icmp .ge 45, 3) := by decide +kernel
theorem dX1_lineUp_23 : decode cX1_lineUp 23 = .ok (.aload_n 0, 1) := by decide +kernel
theorem dX1_lineUp_24 : decode cX1_lineUp 24 = .ok (.getfield 14, 3) := by decide +kernel
theorem dX1_lineUp_27 : decode cX1_lineUp 27 = .ok (.iload 5, 2) := by decide +kernel
theorem dX1_lineUp_29 : decode cX1_lineUp 29 = .ok (.iconst 0, 1) := by decide +kernel
theorem dX1_lineUp_30 : decode cX1_lineUp 30 = .ok (.invokevirtual 38, 3) := by decide +kernel
theorem dX1_lineUp_33 : decode cX1_lineUp 33 = .ok (.iload 4, 2) := by decide +kernel
theorem dX1_lineUp_35 : decode cX1_lineUp 35 = .ok (.if_icmp .ne 24, 3) := by decide +kernel
theorem dX1_lineUp_38 : decode cX1_lineUp 38 = .ok (.aload_n 0, 1) := by decide +kernel
theorem dX1_lineUp_39 : decode cX1_lineUp 39 = .ok (.iload 5, 2) := by decide +kernel
theorem dX1_lineUp_41 : decode cX1_lineUp 41 = .ok (.iload_n 1, 1) := by decide +kernel
theorem dX1_lineUp_42 : decode cX1_lineUp 42 = .ok (.invokevirtual 47, 3) := by decide +kernel
theorem dX1_lineUp_45 : decode cX1_lineUp 45 = .ok (.ifCond .le 14, 3) := by decide +kernel
theorem dX1_lineUp_48 : decode cX1_lineUp 48 = .ok (.aload_n 2, 1) := by decide +kernel
theorem dX1_lineUp_49 : decode cX1_lineUp 49 = .ok (.iconst 0, 1) := by decide +kernel
theorem dX1_lineUp_50 : decode cX1_lineUp 50 = .ok (.iload_n 3, 1) := by decide +kernel
theorem dX1_lineUp_51 : decode cX1_lineUp 51 = .ok (.iload 5, 2) := by decide +kernel
theorem dX1_lineUp_53 : decode cX1_lineUp 53 = .ok (.invokevirtual 34, 3) := by decide +kernel
theorem dX1_lineUp_56 : decode cX1_lineUp 56 = .ok (.iinc 3 1, 3) := by decide +kernel
theorem dX1_lineUp_59 : decode cX1_lineUp 59 = .ok (.iinc 5 1, 3) := by decide +kernel
theorem dX1_lineUp_62 : decode cX1_lineUp 62 = .ok (.goto (-48), 3) := by decide +kernel
theorem dX1_lineUp_65 : decode cX1_lineUp 65 = .ok (.iinc 4 1, 3) := by decide +kernel
theorem dX1_lineUp_68 : decode cX1_lineUp 68 = .ok (.goto (-63), 3) := by decide +kernel
theorem dX1_lineUp_71 : decode cX1_lineUp 71 = .ok (.iload_n 3, 1) := by decide +kernel
theorem dX1_lineUp_72 : decode cX1_lineUp 72 = .ok (.ireturn, 1) := by decide +kernel
theorem dX1_handOut_0 : decode cX1_handOut 0 = .ok (.aload_n 0, 1) := by decide +kernel
theorem dX1_handOut_1 : decode cX1_handOut 1 = .ok (.iload_n 1, 1) := by decide +kernel
theorem dX1_handOut_2 : decode cX1_handOut 2 = .ok (.aload_n 3, 1) := by decide +kernel
theorem dX1_handOut_3 : decode cX1_handOut 3 = .ok (.invokevirtual 50, 3) := by decide +kernel
theorem dX1_handOut_6 : decode cX1_handOut 6 = .ok (.istore 4, 2) := by decide +kernel
theorem dX1_handOut_8 : decode cX1_handOut 8 = .ok (.iconst 0, 1) := by decide +kernel
theorem dX1_handOut_9 : decode cX1_handOut 9 = .ok (.istore 5, 2) := by decide +kernel
theorem dX1_handOut_11 : decode cX1_handOut 11 = .ok (.iconst 1, 1) := by decide +kernel
theorem dX1_handOut_12 : decode cX1_handOut 12 = .ok (.istore 6, 2) := by decide +kernel
theorem dX1_handOut_14 : decode cX1_handOut 14 = .ok (.iconst 0, 1) := by decide +kernel
theorem dX1_handOut_15 : decode cX1_handOut 15 = .ok (.istore 7, 2) := by decide +kernel
theorem dX1_handOut_17 : decode cX1_handOut 17 = .ok (.iload 7, 2) := by decide +kernel
theorem dX1_handOut_19 : decode cX1_handOut 19 = .ok (.sipush 3333, 3) := by decide +kernel
theorem dX1_handOut_22 : decode cX1_handOut 22 = .ok (.if_icmp .ge 69, 3) := by decide +kernel
theorem dX1_handOut_25 : decode cX1_handOut 25 = .ok (.iload 6, 2) := by decide +kernel
theorem dX1_handOut_27 : decode cX1_handOut 27 = .ok (.ifCond .eq 64, 3) := by decide +kernel
theorem dX1_handOut_30 : decode cX1_handOut 30 = .ok (.iload 5, 2) := by decide +kernel
theorem dX1_handOut_32 : decode cX1_handOut 32 = .ok (.istore 8, 2) := by decide +kernel
theorem dX1_handOut_34 : decode cX1_handOut 34 = .ok (.iconst 0, 1) := by decide +kernel
theorem dX1_handOut_35 : decode cX1_handOut 35 = .ok (.istore 9, 2) := by decide +kernel
theorem dX1_handOut_37 : decode cX1_handOut 37 = .ok (.iload 9, 2) := by decide +kernel
theorem dX1_handOut_39 : decode cX1_handOut 39 = .ok (.iload 4, 2) := by decide +kernel
theorem dX1_handOut_41 : decode cX1_handOut 41 = .ok (.if_icmp .ge 30, 3) := by decide +kernel
theorem dX1_handOut_44 : decode cX1_handOut 44 = .ok (.iload 5, 2) := by decide +kernel
theorem dX1_handOut_46 : decode cX1_handOut 46 = .ok (.aload_n 0, 1) := by decide +kernel
theorem dX1_handOut_47 : decode cX1_handOut 47 = .ok (.aload_n 3, 1) := by decide +kernel
theorem dX1_handOut_48 : decode cX1_handOut 48 = .ok (.iconst 0, 1) := by decide +kernel
theorem dX1_handOut_49 : decode cX1_handOut 49 = .ok (.iload 9, 2) := by decide +kernel
theorem dX1_handOut_51 : decode cX1_handOut 51 = .ok (.invokevirtual 38, 3) := by decide +kernel
theorem dX1_handOut_54 : decode cX1_handOut 54 = .ok (.iload_n 1, 1) := by decide +kernel
theorem dX1_handOut_55 : decode cX1_handOut 55 = .ok (.iload_n 2, 1) := by decide +kernel
theorem dX1_handOut_56 : decode cX1_handOut 56 = .ok (.iload 5, 2) := by decide +kernel
theorem dX1_handOut_58 : decode cX1_handOut 58 = .ok (.isub, 1) := by decide +kernel
theorem dX1_handOut_59 : decode cX1_handOut 59 = .ok (.invokevirtual 54, 3) := by decide +kernel
theorem dX1_handOut_62 : decode cX1_handOut 62 = .ok (.iadd, 1) := by decide +kernel
theorem dX1_handOut_63 : decode cX1_handOut 63 = .ok (.istore 5, 2) := by decide +kernel
theorem dX1_handOut_65 : decode cX1_handOut 65 = .ok (.iinc 9 1, 3) := by decide +kernel
theorem dX1_handOut_68 : decode cX1_handOut 68 = .ok (.goto (-31), 3) := by decide +kernel
theorem dX1_handOut_71 : decode cX1_handOut 71 = .ok (.iload 5, 2) := by decide +kernel
theorem dX1_handOut_73 : decode cX1_handOut 73 = .ok (.iload 8, 2) := by decide +kernel
theorem dX1_handOut_75 : decode cX1_handOut 75 = .ok (.if_icmp .le 7, 3) := by decide +kernel
theorem dX1_handOut_78 : decode cX1_handOut 78 = .ok (.iconst 1, 1) := by decide +kernel
theorem dX1_handOut_79 : decode cX1_handOut 79 = .ok (.goto 4, 3) := by decide +kernel
theorem dX1_handOut_82 : decode cX1_handOut 82 = .ok (.iconst 0, 1) := by decide +kernel
theorem dX1_handOut_83 : decode cX1_handOut 83 = .ok (.istore 6, 2) := by decide +kernel
theorem dX1_handOut_85 : decode cX1_handOut 85 = .ok (.iinc 7 1, 3) := by decide +kernel
theorem dX1_handOut_88 : decode cX1_handOut 88 = .ok (.goto (-71), 3) := by decide +kernel
theorem dX1_handOut_91 : decode cX1_handOut 91 = .ok (.iload 5, 2) := by decide +kernel
theorem dX1_handOut_93 : decode cX1_handOut 93 = .ok (.ireturn, 1) := by decide +kernel
theorem dX1_handTo_0 : decode cX1_handTo 0 = .ok (.aload_n 0, 1) := by decide +kernel
theorem dX1_handTo_1 : decode cX1_handTo 1 = .ok (.iload_n 1, 1) := by decide +kernel
theorem dX1_handTo_2 : decode cX1_handTo 2 = .ok (.invokevirtual 58, 3) := by decide +kernel
theorem dX1_handTo_5 : decode cX1_handTo 5 = .ok (.aload_n 0, 1) := by decide +kernel
theorem dX1_handTo_6 : decode cX1_handTo 6 = .ok (.iload_n 1, 1) := by decide +kernel
theorem dX1_handTo_7 : decode cX1_handTo 7 = .ok (.iload_n 2, 1) := by decide +kernel
theorem dX1_handTo_8 : decode cX1_handTo 8 = .ok (.invokevirtual 47, 3) := by decide +kernel
theorem dX1_handTo_11 : decode cX1_handTo 11 = .ok (.iload_n 3, 1) := by decide +kernel
theorem dX1_handTo_12 : decode cX1_handTo 12 = .ok (.invokestatic 62, 3) := by decide +kernel
theorem dX1_handTo_15 : decode cX1_handTo 15 = .ok (.invokestatic 62, 3) := by decide +kernel
theorem dX1_handTo_18 : decode cX1_handTo 18 = .ok (.istore 4, 2) := by decide +kernel
theorem dX1_handTo_20 : decode cX1_handTo 20 = .ok (.aload_n 0, 1) := by decide +kernel
theorem dX1_handTo_21 : decode cX1_handTo 21 = .ok (.getfield 20, 3) := by decide +kernel
theorem dX1_handTo_24 : decode cX1_handTo 24 = .ok (.iload_n 1, 1) := by decide +kernel
theorem dX1_handTo_25 : decode cX1_handTo 25 = .ok (.iload_n 2, 1) := by decide +kernel
theorem dX1_handTo_26 : decode cX1_handTo 26 = .ok (.iload 4, 2) := by decide +kernel
theorem dX1_handTo_28 : decode cX1_handTo 28 = .ok (.invokevirtual 65, 3) := by decide +kernel
theorem dX1_handTo_31 : decode cX1_handTo 31 = .ok (.iload 4, 2) := by decide +kernel
theorem dX1_handTo_33 : decode cX1_handTo 33 = .ok (.ireturn, 1) := by decide +kernel
theorem dX1_handIn_0 : decode cX1_handIn 0 = .ok (.aload_n 0, 1) := by decide +kernel
theorem dX1_handIn_1 : decode cX1_handIn 1 = .ok (.getfield 20, 3) := by decide +kernel
theorem dX1_handIn_4 : decode cX1_handIn 4 = .ok (.iload_n 1, 1) := by decide +kernel
theorem dX1_handIn_5 : decode cX1_handIn 5 = .ok (.iload_n 2, 1) := by decide +kernel
theorem dX1_handIn_6 : decode cX1_handIn 6 = .ok (.iload_n 3, 1) := by decide +kernel
theorem dX1_handIn_7 : decode cX1_handIn 7 = .ok (.ineg, 1) := by decide +kernel
theorem dX1_handIn_8 : decode cX1_handIn 8 = .ok (.invokevirtual 65, 3) := by decide +kernel
theorem dX1_handIn_11 : decode cX1_handIn 11 = .ok (.aload_n 0, 1) := by decide +kernel
theorem dX1_handIn_12 : decode cX1_handIn 12 = .ok (.getfield 20, 3) := by decide +kernel
theorem dX1_handIn_15 : decode cX1_handIn 15 = .ok (.iload_n 1, 1) := by decide +kernel
theorem dX1_handIn_16 : decode cX1_handIn 16 = .ok (.iload_n 2, 1) := by decide +kernel
theorem dX1_handIn_17 : decode cX1_handIn 17 = .ok (.invokevirtual 38, 3) := by decide +kernel
theorem dX1_handIn_20 : decode cX1_handIn 20 = .ok (.istore 4, 2) := by decide +kernel
theorem dX1_handIn_22 : decode cX1_handIn 22 = .ok (.aload_n 0, 1) := by decide +kernel
theorem dX1_handIn_23 : decode cX1_handIn 23 = .ok (.getfield 23, 3) := by decide +kernel
theorem dX1_handIn_26 : decode cX1_handIn 26 = .ok (.iload_n 1, 1) := by decide +kernel
theorem dX1_handIn_27 : decode cX1_handIn 27 = .ok (.iload_n 2, 1) := by decide +kernel
theorem dX1_handIn_28 : decode cX1_handIn 28 = .ok (.iload 4, 2) := by decide +kernel
theorem dX1_handIn_30 : decode cX1_handIn 30 = .ok (.aload_n 0, 1) := by decide +kernel
theorem dX1_handIn_31 : decode cX1_handIn 31 = .ok (.getfield 23, 3) := by decide +kernel
theorem dX1_handIn_34 : decode cX1_handIn 34 = .ok (.iload_n 1, 1) := by decide +kernel
theorem dX1_handIn_35 : decode cX1_handIn 35 = .ok (.iload_n 2, 1) := by decide +kernel
theorem dX1_handIn_36 : decode cX1_handIn 36 = .ok (.invokevirtual 38, 3) := by decide +kernel
theorem dX1_handIn_39 : decode cX1_handIn 39 = .ok (.invokestatic 62, 3) := by decide +kernel
theorem dX1_handIn_42 : decode cX1_handIn 42 = .ok (.invokevirtual 34, 3) := by decide +kernel
theorem dX1_handIn_45 : decode cX1_handIn 45 = .ok (.iload 4, 2) := by decide +kernel
theorem dX1_handIn_47 : decode cX1_handIn 47 = .ok (.ireturn, 1) := by decide +kernel
theorem dX1_heldOfAll_0 : decode cX1_heldOfAll 0 = .ok (.iconst 0, 1) := by decide +kernel
theorem dX1_heldOfAll_1 : decode cX1_heldOfAll 1 = .ok (.istore_n 3, 1) := by decide +kernel
theorem dX1_heldOfAll_2 : decode cX1_heldOfAll 2 = .ok (.iconst 0, 1) := by decide +kernel
theorem dX1_heldOfAll_3 : decode cX1_heldOfAll 3 = .ok (.istore 4, 2) := by decide +kernel
theorem dX1_heldOfAll_5 : decode cX1_heldOfAll 5 = .ok (.iload 4, 2) := by decide +kernel
theorem dX1_heldOfAll_7 : decode cX1_heldOfAll 7 = .ok (.bipush 16, 2) := by decide +kernel
theorem dX1_heldOfAll_9 : decode cX1_heldOfAll 9 = .ok (.if_icmp .ge 31, 3) := by decide +kernel
theorem dX1_heldOfAll_12 : decode cX1_heldOfAll 12 = .ok (.iload_n 2, 1) := by decide +kernel
theorem dX1_heldOfAll_13 : decode cX1_heldOfAll 13 = .ok (.iload 4, 2) := by decide +kernel
theorem dX1_heldOfAll_15 : decode cX1_heldOfAll 15 = .ok (.invokestatic 68, 3) := by decide +kernel
theorem dX1_heldOfAll_18 : decode cX1_heldOfAll 18 = .ok (.ifCond .eq 16, 3) := by decide +kernel
theorem dX1_heldOfAll_21 : decode cX1_heldOfAll 21 = .ok (.iload_n 3, 1) := by decide +kernel
theorem dX1_heldOfAll_22 : decode cX1_heldOfAll 22 = .ok (.aload_n 0, 1) := by decide +kernel
theorem dX1_heldOfAll_23 : decode cX1_heldOfAll 23 = .ok (.getfield 20, 3) := by decide +kernel
theorem dX1_heldOfAll_26 : decode cX1_heldOfAll 26 = .ok (.iload_n 1, 1) := by decide +kernel
theorem dX1_heldOfAll_27 : decode cX1_heldOfAll 27 = .ok (.iload 4, 2) := by decide +kernel
theorem dX1_heldOfAll_29 : decode cX1_heldOfAll 29 = .ok (.invokevirtual 38, 3) := by decide +kernel
theorem dX1_heldOfAll_32 : decode cX1_heldOfAll 32 = .ok (.iadd, 1) := by decide +kernel
theorem dX1_heldOfAll_33 : decode cX1_heldOfAll 33 = .ok (.istore_n 3, 1) := by decide +kernel
theorem dX1_heldOfAll_34 : decode cX1_heldOfAll 34 = .ok (.iinc 4 1, 3) := by decide +kernel
theorem dX1_heldOfAll_37 : decode cX1_heldOfAll 37 = .ok (.goto (-32), 3) := by decide +kernel
theorem dX1_heldOfAll_40 : decode cX1_heldOfAll 40 = .ok (.iload_n 3, 1) := by decide +kernel
theorem dX1_heldOfAll_41 : decode cX1_heldOfAll 41 = .ok (.ireturn, 1) := by decide +kernel
theorem dX1_heldByAll_0 : decode cX1_heldByAll 0 = .ok (.iconst 0, 1) := by decide +kernel
theorem dX1_heldByAll_1 : decode cX1_heldByAll 1 = .ok (.istore_n 1, 1) := by decide +kernel
theorem dX1_heldByAll_2 : decode cX1_heldByAll 2 = .ok (.iconst 0, 1) := by decide +kernel
theorem dX1_heldByAll_3 : decode cX1_heldByAll 3 = .ok (.istore_n 2, 1) := by decide +kernel
theorem dX1_heldByAll_4 : decode cX1_heldByAll 4 = .ok (.iload_n 2, 1) := by decide +kernel
theorem dX1_heldByAll_5 : decode cX1_heldByAll 5 = .ok (.bipush 16, 2) := by decide +kernel
theorem dX1_heldByAll_7 : decode cX1_heldByAll 7 = .ok (.if_icmp .ge 20, 3) := by decide +kernel
theorem dX1_heldByAll_10 : decode cX1_heldByAll 10 = .ok (.iload_n 1, 1) := by decide +kernel
theorem dX1_heldByAll_11 : decode cX1_heldByAll 11 = .ok (.aload_n 0, 1) := by decide +kernel
theorem dX1_heldByAll_12 : decode cX1_heldByAll 12 = .ok (.getfield 20, 3) := by decide +kernel
theorem dX1_heldByAll_15 : decode cX1_heldByAll 15 = .ok (.iload_n 2, 1) := by decide +kernel
theorem dX1_heldByAll_16 : decode cX1_heldByAll 16 = .ok (.invokevirtual 72, 3) := by decide +kernel
theorem dX1_heldByAll_19 : decode cX1_heldByAll 19 = .ok (.iadd, 1) := by decide +kernel
theorem dX1_heldByAll_20 : decode cX1_heldByAll 20 = .ok (.istore_n 1, 1) := by decide +kernel
theorem dX1_heldByAll_21 : decode cX1_heldByAll 21 = .ok (.iinc 2 1, 3) := by decide +kernel
theorem dX1_heldByAll_24 : decode cX1_heldByAll 24 = .ok (.goto (-20), 3) := by decide +kernel
theorem dX1_heldByAll_27 : decode cX1_heldByAll 27 = .ok (.iload_n 1, 1) := by decide +kernel
theorem dX1_heldByAll_28 : decode cX1_heldByAll 28 = .ok (.ireturn, 1) := by decide +kernel
theorem dX2_init_0 : decode cX2_init 0 = .ok (.aload_n 0, 1) := by decide +kernel
theorem dX2_init_1 : decode cX2_init 1 = .ok (.invokespecial 3, 3) := by decide +kernel
theorem dX2_init_4 : decode cX2_init 4 = .ok (.aload_n 0, 1) := by decide +kernel
theorem dX2_init_5 : decode cX2_init 5 = .ok (.bipush 8, 2) := by decide +kernel
theorem dX2_init_7 : decode cX2_init 7 = .ok (.anewarray 9, 3) := by decide +kernel
theorem dX2_init_10 : decode cX2_init 10 = .ok (.putfield 11, 3) := by decide +kernel
theorem dX2_init_13 : decode cX2_init 13 = .ok (.aload_n 0, 1) := by decide +kernel
theorem dX2_init_14 : decode cX2_init 14 = .ok (.iconst 0, 1) := by decide +kernel
theorem dX2_init_15 : decode cX2_init 15 = .ok (.putfield 17, 3) := by decide +kernel
theorem dX2_init_18 : decode cX2_init 18 = .ok (.aload_n 0, 1) := by decide +kernel
theorem dX2_init_19 : decode cX2_init 19 = .ok (.iconst 0, 1) := by decide +kernel
theorem dX2_init_20 : decode cX2_init 20 = .ok (.putfield 21, 3) := by decide +kernel
theorem dX2_init_23 : decode cX2_init 23 = .ok (.iconst 0, 1) := by decide +kernel
theorem dX2_init_24 : decode cX2_init 24 = .ok (.istore_n 1, 1) := by decide +kernel
theorem dX2_init_25 : decode cX2_init 25 = .ok (.iload_n 1, 1) := by decide +kernel
theorem dX2_init_26 : decode cX2_init 26 = .ok (.aload_n 0, 1) := by decide +kernel
theorem dX2_init_27 : decode cX2_init 27 = .ok (.getfield 11, 3) := by decide +kernel
theorem dX2_init_30 : decode cX2_init 30 = .ok (.arraylength, 1) := by decide +kernel
theorem dX2_init_31 : decode cX2_init 31 = .ok (.if_icmp .ge 22, 3) := by decide +kernel
theorem dX2_init_34 : decode cX2_init 34 = .ok (.aload_n 0, 1) := by decide +kernel
theorem dX2_init_35 : decode cX2_init 35 = .ok (.getfield 11, 3) := by decide +kernel
theorem dX2_init_38 : decode cX2_init 38 = .ok (.iload_n 1, 1) := by decide +kernel
theorem dX2_init_39 : decode cX2_init 39 = .ok (.new 9, 3) := by decide +kernel
theorem dX2_init_42 : decode cX2_init 42 = .ok (.dup, 1) := by decide +kernel
theorem dX2_init_43 : decode cX2_init 43 = .ok (.invokespecial 24, 3) := by decide +kernel
theorem dX2_init_46 : decode cX2_init 46 = .ok (.aastore, 1) := by decide +kernel
theorem dX2_init_47 : decode cX2_init 47 = .ok (.iinc 1 1, 3) := by decide +kernel
theorem dX2_init_50 : decode cX2_init 50 = .ok (.goto (-25), 3) := by decide +kernel
theorem dX2_init_53 : decode cX2_init 53 = .ok (.return_, 1) := by decide +kernel
theorem dX2_stateAt_0 : decode cX2_stateAt 0 = .ok (.iload_n 1, 1) := by decide +kernel
theorem dX2_stateAt_1 : decode cX2_stateAt 1 = .ok (.iconst 0, 1) := by decide +kernel
theorem dX2_stateAt_2 : decode cX2_stateAt 2 = .ok (.aload_n 0, 1) := by decide +kernel
theorem dX2_stateAt_3 : decode cX2_stateAt 3 = .ok (.getfield 11, 3) := by decide +kernel
theorem dX2_stateAt_6 : decode cX2_stateAt 6 = .ok (.arraylength, 1) := by decide +kernel
theorem dX2_stateAt_7 : decode cX2_stateAt 7 = .ok (.iconst 1, 1) := by decide +kernel
theorem dX2_stateAt_8 : decode cX2_stateAt 8 = .ok (.isub, 1) := by decide +kernel
theorem dX2_stateAt_9 : decode cX2_stateAt 9 = .ok (.invokestatic 25, 3) := by decide +kernel
theorem dX2_stateAt_12 : decode cX2_stateAt 12 = .ok (.ifCond .eq 12, 3) := by decide +kernel
theorem dX2_stateAt_15 : decode cX2_stateAt 15 = .ok (.aload_n 0, 1) := by decide +kernel
theorem dX2_stateAt_16 : decode cX2_stateAt 16 = .ok (.getfield 11, 3) := by decide +kernel
theorem dX2_stateAt_19 : decode cX2_stateAt 19 = .ok (.iload_n 1, 1) := by decide +kernel
theorem dX2_stateAt_20 : decode cX2_stateAt 20 = .ok (.aaload, 1) := by decide +kernel
theorem dX2_stateAt_21 : decode cX2_stateAt 21 = .ok (.goto 4, 3) := by decide +kernel
theorem dX2_stateAt_24 : decode cX2_stateAt 24 = .ok (.aconst_null, 1) := by decide +kernel
theorem dX2_stateAt_25 : decode cX2_stateAt 25 = .ok (.areturn, 1) := by decide +kernel
theorem dX2_remember_0 : decode cX2_remember 0 = .ok (.aload_n 0, 1) := by decide +kernel
theorem dX2_remember_1 : decode cX2_remember 1 = .ok (.aload_n 0, 1) := by decide +kernel
theorem dX2_remember_2 : decode cX2_remember 2 = .ok (.getfield 17, 3) := by decide +kernel
theorem dX2_remember_5 : decode cX2_remember 5 = .ok (.invokevirtual 29, 3) := by decide +kernel
theorem dX2_remember_8 : decode cX2_remember 8 = .ok (.astore_n 2, 1) := by decide +kernel
theorem dX2_remember_9 : decode cX2_remember 9 = .ok (.aload_n 2, 1) := by decide +kernel
theorem dX2_remember_10 : decode cX2_remember 10 = .ok (.ifnull 8, 3) := by decide +kernel
theorem dX2_remember_13 : decode cX2_remember 13 = .ok (.aload_n 2, 1) := by decide +kernel
theorem dX2_remember_14 : decode cX2_remember 14 = .ok (.aload_n 1, 1) := by decide +kernel
theorem dX2_remember_15 : decode cX2_remember 15 = .ok (.invokevirtual 33, 3) := by decide +kernel
theorem dX2_remember_18 : decode cX2_remember 18 = .ok (.aload_n 0, 1) := by decide +kernel
theorem dX2_remember_19 : decode cX2_remember 19 = .ok (.aload_n 0, 1) := by decide +kernel
theorem dX2_remember_20 : decode cX2_remember 20 = .ok (.getfield 17, 3) := by decide +kernel
theorem dX2_remember_23 : decode cX2_remember 23 = .ok (.iconst 1, 1) := by decide +kernel
theorem dX2_remember_24 : decode cX2_remember 24 = .ok (.iadd, 1) := by decide +kernel
theorem dX2_remember_25 : decode cX2_remember 25 = .ok (.bipush 8, 2) := by decide +kernel
theorem dX2_remember_27 : decode cX2_remember 27 = .ok (.irem, 1) := by decide +kernel
theorem dX2_remember_28 : decode cX2_remember 28 = .ok (.putfield 17, 3) := by decide +kernel
theorem dX2_remember_31 : decode cX2_remember 31 = .ok (.aload_n 0, 1) := by decide +kernel
theorem dX2_remember_32 : decode cX2_remember 32 = .ok (.aload_n 0, 1) := by decide +kernel
theorem dX2_remember_33 : decode cX2_remember 33 = .ok (.getfield 21, 3) := by decide +kernel
theorem dX2_remember_36 : decode cX2_remember 36 = .ok (.iconst 1, 1) := by decide +kernel
theorem dX2_remember_37 : decode cX2_remember 37 = .ok (.iadd, 1) := by decide +kernel
theorem dX2_remember_38 : decode cX2_remember 38 = .ok (.bipush 8, 2) := by decide +kernel
theorem dX2_remember_40 : decode cX2_remember 40 = .ok (.invokestatic 37, 3) := by decide +kernel
theorem dX2_remember_43 : decode cX2_remember 43 = .ok (.putfield 21, 3) := by decide +kernel
theorem dX2_remember_46 : decode cX2_remember 46 = .ok (.return_, 1) := by decide +kernel
theorem dX2_takeBack_0 : decode cX2_takeBack 0 = .ok (.aload_n 0, 1) := by decide +kernel
theorem dX2_takeBack_1 : decode cX2_takeBack 1 = .ok (.aload_n 0, 1) := by decide +kernel
theorem dX2_takeBack_2 : decode cX2_takeBack 2 = .ok (.getfield 17, 3) := by decide +kernel
theorem dX2_takeBack_5 : decode cX2_takeBack 5 = .ok (.bipush 8, 2) := by decide +kernel
theorem dX2_takeBack_7 : decode cX2_takeBack 7 = .ok (.iadd, 1) := by decide +kernel
theorem dX2_takeBack_8 : decode cX2_takeBack 8 = .ok (.iconst 1, 1) := by decide +kernel
theorem dX2_takeBack_9 : decode cX2_takeBack 9 = .ok (.isub, 1) := by decide +kernel
theorem dX2_takeBack_10 : decode cX2_takeBack 10 = .ok (.bipush 8, 2) := by decide +kernel
theorem dX2_takeBack_12 : decode cX2_takeBack 12 = .ok (.irem, 1) := by decide +kernel
theorem dX2_takeBack_13 : decode cX2_takeBack 13 = .ok (.putfield 17, 3) := by decide +kernel
theorem dX2_takeBack_16 : decode cX2_takeBack 16 = .ok (.aload_n 0, 1) := by decide +kernel
theorem dX2_takeBack_17 : decode cX2_takeBack 17 = .ok (.dup, 1) := by decide +kernel
theorem dX2_takeBack_18 : decode cX2_takeBack 18 = .ok (.getfield 21, 3) := by decide +kernel
theorem dX2_takeBack_21 : decode cX2_takeBack 21 = .ok (.iconst 1, 1) := by decide +kernel
theorem dX2_takeBack_22 : decode cX2_takeBack 22 = .ok (.isub, 1) := by decide +kernel
theorem dX2_takeBack_23 : decode cX2_takeBack 23 = .ok (.putfield 21, 3) := by decide +kernel
theorem dX2_takeBack_26 : decode cX2_takeBack 26 = .ok (.aload_n 0, 1) := by decide +kernel
theorem dX2_takeBack_27 : decode cX2_takeBack 27 = .ok (.aload_n 0, 1) := by decide +kernel
theorem dX2_takeBack_28 : decode cX2_takeBack 28 = .ok (.getfield 17, 3) := by decide +kernel
theorem dX2_takeBack_31 : decode cX2_takeBack 31 = .ok (.invokevirtual 29, 3) := by decide +kernel
theorem dX2_takeBack_34 : decode cX2_takeBack 34 = .ok (.astore_n 2, 1) := by decide +kernel
theorem dX2_takeBack_35 : decode cX2_takeBack 35 = .ok (.aload_n 2, 1) := by decide +kernel
theorem dX2_takeBack_36 : decode cX2_takeBack 36 = .ok (.ifnull 8, 3) := by decide +kernel
theorem dX2_takeBack_39 : decode cX2_takeBack 39 = .ok (.aload_n 1, 1) := by decide +kernel
theorem dX2_takeBack_40 : decode cX2_takeBack 40 = .ok (.aload_n 2, 1) := by decide +kernel
theorem dX2_takeBack_41 : decode cX2_takeBack 41 = .ok (.invokevirtual 33, 3) := by decide +kernel
theorem dX2_takeBack_44 : decode cX2_takeBack 44 = .ok (.return_, 1) := by decide +kernel
theorem dX3_init_0 : decode cX3_init 0 = .ok (.aload_n 0, 1) := by decide +kernel
theorem dX3_init_1 : decode cX3_init 1 = .ok (.invokespecial 3, 3) := by decide +kernel
theorem dX3_init_4 : decode cX3_init 4 = .ok (.aload_n 0, 1) := by decide +kernel
theorem dX3_init_5 : decode cX3_init 5 = .ok (.bipush 40, 2) := by decide +kernel
theorem dX3_init_7 : decode cX3_init 7 = .ok (.newarray .char, 2) := by decide +kernel
theorem dX3_init_9 : decode cX3_init 9 = .ok (.putfield 9, 3) := by decide +kernel
theorem dX3_init_12 : decode cX3_init 12 = .ok (.aload_n 0, 1) := by decide +kernel
theorem dX3_init_13 : decode cX3_init 13 = .ok (.new 15, 3) := by decide +kernel
theorem dX3_init_16 : decode cX3_init 16 = .ok (.dup, 1) := by decide +kernel
theorem dX3_init_17 : decode cX3_init 17 = .ok (.iconst 4, 1) := by decide +kernel
theorem dX3_init_18 : decode cX3_init 18 = .ok (.iconst 2, 1) := by decide +kernel
theorem dX3_init_19 : decode cX3_init 19 = .ok (.invokespecial 17, 3) := by decide +kernel
theorem dX3_init_22 : decode cX3_init 22 = .ok (.putfield 20, 3) := by decide +kernel
theorem dX3_init_25 : decode cX3_init 25 = .ok (.aload_n 0, 1) := by decide +kernel
theorem dX3_init_26 : decode cX3_init 26 = .ok (.iconst 0, 1) := by decide +kernel
theorem dX3_init_27 : decode cX3_init 27 = .ok (.putfield 24, 3) := by decide +kernel
theorem dX3_init_30 : decode cX3_init 30 = .ok (.aload_n 0, 1) := by decide +kernel
theorem dX3_init_31 : decode cX3_init 31 = .ok (.iconst 0, 1) := by decide +kernel
theorem dX3_init_32 : decode cX3_init 32 = .ok (.putfield 28, 3) := by decide +kernel
theorem dX3_init_35 : decode cX3_init 35 = .ok (.aload_n 0, 1) := by decide +kernel
theorem dX3_init_36 : decode cX3_init 36 = .ok (.iconst 0, 1) := by decide +kernel
theorem dX3_init_37 : decode cX3_init 37 = .ok (.putfield 31, 3) := by decide +kernel
theorem dX3_init_40 : decode cX3_init 40 = .ok (.aload_n 0, 1) := by decide +kernel
theorem dX3_init_41 : decode cX3_init 41 = .ok (.iconst 1, 1) := by decide +kernel
theorem dX3_init_42 : decode cX3_init 42 = .ok (.putfield 34, 3) := by decide +kernel
theorem dX3_init_45 : decode cX3_init 45 = .ok (.return_, 1) := by decide +kernel
theorem dX3_append_0 : decode cX3_append 0 = .ok (.aload_n 0, 1) := by decide +kernel
theorem dX3_append_1 : decode cX3_append 1 = .ok (.getfield 24, 3) := by decide +kernel
theorem dX3_append_4 : decode cX3_append 4 = .ok (.iconst 0, 1) := by decide +kernel
theorem dX3_append_5 : decode cX3_append 5 = .ok (.aload_n 0, 1) := by decide +kernel
theorem dX3_append_6 : decode cX3_append 6 = .ok (.getfield 9, 3) := by decide +kernel
theorem dX3_append_9 : decode cX3_append 9 = .ok (.arraylength, 1) := by decide +kernel
theorem dX3_append_10 : decode cX3_append 10 = .ok (.iconst 1, 1) := by decide +kernel
theorem dX3_append_11 : decode cX3_append 11 = .ok (.isub, 1) := by decide +kernel
theorem dX3_append_12 : decode cX3_append 12 = .ok (.invokestatic 38, 3) := by decide +kernel
theorem dX3_append_15 : decode cX3_append 15 = .ok (.ifCond .eq 23, 3) := by decide +kernel
theorem dX3_append_18 : decode cX3_append 18 = .ok (.aload_n 0, 1) := by decide +kernel
theorem dX3_append_19 : decode cX3_append 19 = .ok (.getfield 9, 3) := by decide +kernel
theorem dX3_append_22 : decode cX3_append 22 = .ok (.aload_n 0, 1) := by decide +kernel
theorem dX3_append_23 : decode cX3_append 23 = .ok (.getfield 24, 3) := by decide +kernel
theorem dX3_append_26 : decode cX3_append 26 = .ok (.iload_n 1, 1) := by decide +kernel
theorem dX3_append_27 : decode cX3_append 27 = .ok (.castore, 1) := by decide +kernel
theorem dX3_append_28 : decode cX3_append 28 = .ok (.aload_n 0, 1) := by decide +kernel
theorem dX3_append_29 : decode cX3_append 29 = .ok (.dup, 1) := by decide +kernel
theorem dX3_append_30 : decode cX3_append 30 = .ok (.getfield 24, 3) := by decide +kernel
theorem dX3_append_33 : decode cX3_append 33 = .ok (.iconst 1, 1) := by decide +kernel
theorem dX3_append_34 : decode cX3_append 34 = .ok (.iadd, 1) := by decide +kernel
theorem dX3_append_35 : decode cX3_append 35 = .ok (.putfield 24, 3) := by decide +kernel
theorem dX3_append_38 : decode cX3_append 38 = .ok (.aload_n 0, 1) := by decide +kernel
theorem dX3_append_39 : decode cX3_append 39 = .ok (.getfield 24, 3) := by decide +kernel
theorem dX3_append_42 : decode cX3_append 42 = .ok (.ireturn, 1) := by decide +kernel
theorem dX3_lotOf_0 : decode cX3_lotOf 0 = .ok (.aload_n 0, 1) := by decide +kernel
theorem dX3_lotOf_1 : decode cX3_lotOf 1 = .ok (.getfield 20, 3) := by decide +kernel
theorem dX3_lotOf_4 : decode cX3_lotOf 4 = .ok (.iload_n 1, 1) := by decide +kernel
theorem dX3_lotOf_5 : decode cX3_lotOf 5 = .ok (.iconst 0, 1) := by decide +kernel
theorem dX3_lotOf_6 : decode cX3_lotOf 6 = .ok (.invokevirtual 42, 3) := by decide +kernel
theorem dX3_lotOf_9 : decode cX3_lotOf 9 = .ok (.ireturn, 1) := by decide +kernel
theorem dX3_quartersOf_0 : decode cX3_quartersOf 0 = .ok (.aload_n 0, 1) := by decide +kernel
theorem dX3_quartersOf_1 : decode cX3_quartersOf 1 = .ok (.getfield 20, 3) := by decide +kernel
theorem dX3_quartersOf_4 : decode cX3_quartersOf 4 = .ok (.iload_n 1, 1) := by decide +kernel
theorem dX3_quartersOf_5 : decode cX3_quartersOf 5 = .ok (.iconst 1, 1) := by decide +kernel
theorem dX3_quartersOf_6 : decode cX3_quartersOf 6 = .ok (.invokevirtual 42, 3) := by decide +kernel
theorem dX3_quartersOf_9 : decode cX3_quartersOf 9 = .ok (.ireturn, 1) := by decide +kernel
theorem dX3_hasEmptyPart_0 : decode cX3_hasEmptyPart 0 = .ok (.iconst 0, 1) := by decide +kernel
theorem dX3_hasEmptyPart_1 : decode cX3_hasEmptyPart 1 = .ok (.istore_n 1, 1) := by decide +kernel
theorem dX3_hasEmptyPart_2 : decode cX3_hasEmptyPart 2 = .ok (.iload_n 1, 1) := by decide +kernel
theorem dX3_hasEmptyPart_3 : decode cX3_hasEmptyPart 3 = .ok (.aload_n 0, 1) := by decide +kernel
theorem dX3_hasEmptyPart_4 : decode cX3_hasEmptyPart 4 = .ok (.getfield 28, 3) := by decide +kernel
theorem dX3_hasEmptyPart_7 : decode cX3_hasEmptyPart 7 = .ok (.if_icmp .ge 19, 3) := by decide +kernel
theorem dX3_hasEmptyPart_10 : decode cX3_hasEmptyPart 10 = .ok (.aload_n 0, 1) := by decide +kernel
theorem dX3_hasEmptyPart_11 : decode cX3_hasEmptyPart 11 = .ok (.iload_n 1, 1) := by decide +kernel
theorem dX3_hasEmptyPart_12 : decode cX3_hasEmptyPart 12 = .ok (.invokevirtual 46, 3) := by decide +kernel
theorem dX3_hasEmptyPart_15 : decode cX3_hasEmptyPart 15 = .ok (.ifCond .ne 5, 3) := by decide +kernel
theorem dX3_hasEmptyPart_18 : decode cX3_hasEmptyPart 18 = .ok (.iconst 1, 1) := by decide +kernel
theorem dX3_hasEmptyPart_19 : decode cX3_hasEmptyPart 19 = .ok (.ireturn, 1) := by decide +kernel
theorem dX3_hasEmptyPart_20 : decode cX3_hasEmptyPart 20 = .ok (.iinc 1 1, 3) := by decide +kernel
theorem dX3_hasEmptyPart_23 : decode cX3_hasEmptyPart 23 = .ok (.goto (-21), 3) := by decide +kernel
theorem dX3_hasEmptyPart_26 : decode cX3_hasEmptyPart 26 = .ok (.iconst 0, 1) := by decide +kernel
theorem dX3_hasEmptyPart_27 : decode cX3_hasEmptyPart 27 = .ok (.ireturn, 1) := by decide +kernel
theorem dX3_readBlend_0 : decode cX3_readBlend 0 = .ok (.aload_n 0, 1) := by decide +kernel
theorem dX3_readBlend_1 : decode cX3_readBlend 1 = .ok (.iconst 0, 1) := by decide +kernel
theorem dX3_readBlend_2 : decode cX3_readBlend 2 = .ok (.putfield 31, 3) := by decide +kernel
theorem dX3_readBlend_5 : decode cX3_readBlend 5 = .ok (.aload_n 0, 1) := by decide +kernel
theorem dX3_readBlend_6 : decode cX3_readBlend 6 = .ok (.iconst 1, 1) := by decide +kernel
theorem dX3_readBlend_7 : decode cX3_readBlend 7 = .ok (.putfield 34, 3) := by decide +kernel
theorem dX3_readBlend_10 : decode cX3_readBlend 10 = .ok (.iconst 0, 1) := by decide +kernel
theorem dX3_readBlend_11 : decode cX3_readBlend 11 = .ok (.istore_n 1, 1) := by decide +kernel
theorem dX3_readBlend_12 : decode cX3_readBlend 12 = .ok (.iconst 0, 1) := by decide +kernel
theorem dX3_readBlend_13 : decode cX3_readBlend 13 = .ok (.istore_n 2, 1) := by decide +kernel
theorem dX3_readBlend_14 : decode cX3_readBlend 14 = .ok (.iload_n 2, 1) := by decide +kernel
theorem dX3_readBlend_15 : decode cX3_readBlend 15 = .ok (.iconst 4, 1) := by decide +kernel
theorem dX3_readBlend_16 : decode cX3_readBlend 16 = .ok (.if_icmp .ge 62, 3) := by decide +kernel
theorem dX3_readBlend_19 : decode cX3_readBlend 19 = .ok (.aload_n 0, 1) := by decide +kernel
theorem dX3_readBlend_20 : decode cX3_readBlend 20 = .ok (.getfield 34, 3) := by decide +kernel
theorem dX3_readBlend_23 : decode cX3_readBlend 23 = .ok (.ifCond .eq 55, 3) := by decide +kernel
theorem dX3_readBlend_26 : decode cX3_readBlend 26 = .ok (.iload_n 1, 1) := by decide +kernel
theorem dX3_readBlend_27 : decode cX3_readBlend 27 = .ok (.ifCond .ne 51, 3) := by decide +kernel
theorem dX3_readBlend_30 : decode cX3_readBlend 30 = .ok (.aload_n 0, 1) := by decide +kernel
theorem dX3_readBlend_31 : decode cX3_readBlend 31 = .ok (.iload_n 2, 1) := by decide +kernel
theorem dX3_readBlend_32 : decode cX3_readBlend 32 = .ok (.invokevirtual 50, 3) := by decide +kernel
theorem dX3_readBlend_35 : decode cX3_readBlend 35 = .ok (.iload_n 2, 1) := by decide +kernel
theorem dX3_readBlend_36 : decode cX3_readBlend 36 = .ok (.iconst 1, 1) := by decide +kernel
theorem dX3_readBlend_37 : decode cX3_readBlend 37 = .ok (.if_icmp .lt 18, 3) := by decide +kernel
theorem dX3_readBlend_40 : decode cX3_readBlend 40 = .ok (.aload_n 0, 1) := by decide +kernel
theorem dX3_readBlend_41 : decode cX3_readBlend 41 = .ok (.getfield 31, 3) := by decide +kernel
theorem dX3_readBlend_44 : decode cX3_readBlend 44 = .ok (.aload_n 0, 1) := by decide +kernel
theorem dX3_readBlend_45 : decode cX3_readBlend 45 = .ok (.getfield 24, 3) := by decide +kernel
theorem dX3_readBlend_48 : decode cX3_readBlend 48 = .ok (.if_icmp .ne 7, 3) := by decide +kernel
theorem dX3_readBlend_51 : decode cX3_readBlend 51 = .ok (.iconst 1, 1) := by decide +kernel
theorem dX3_readBlend_52 : decode cX3_readBlend 52 = .ok (.goto 4, 3) := by decide +kernel
theorem dX3_readBlend_55 : decode cX3_readBlend 55 = .ok (.iconst 0, 1) := by decide +kernel
theorem dX3_readBlend_56 : decode cX3_readBlend 56 = .ok (.istore_n 1, 1) := by decide +kernel
theorem dX3_readBlend_57 : decode cX3_readBlend 57 = .ok (.iload_n 1, 1) := by decide +kernel
theorem dX3_readBlend_58 : decode cX3_readBlend 58 = .ok (.ifCond .ne 14, 3) := by decide +kernel
theorem dX3_readBlend_61 : decode cX3_readBlend 61 = .ok (.iload_n 2, 1) := by decide +kernel
theorem dX3_readBlend_62 : decode cX3_readBlend 62 = .ok (.iconst 3, 1) := by decide +kernel
theorem dX3_readBlend_63 : decode cX3_readBlend 63 = .ok (.if_icmp .ge 9, 3) := by decide +kernel
theorem dX3_readBlend_66 : decode cX3_readBlend 66 = .ok (.aload_n 0, 1) := by decide +kernel
theorem dX3_readBlend_67 : decode cX3_readBlend 67 = .ok (.bipush 43, 2) := by decide +kernel
theorem dX3_readBlend_69 : decode cX3_readBlend 69 = .ok (.invokevirtual 54, 3) := by decide +kernel
theorem dX3_readBlend_72 : decode cX3_readBlend 72 = .ok (.iinc 2 1, 3) := by decide +kernel
theorem dX3_readBlend_75 : decode cX3_readBlend 75 = .ok (.goto (-61), 3) := by decide +kernel
theorem dX3_readBlend_78 : decode cX3_readBlend 78 = .ok (.aload_n 0, 1) := by decide +kernel
theorem dX3_readBlend_79 : decode cX3_readBlend 79 = .ok (.aload_n 0, 1) := by decide +kernel
theorem dX3_readBlend_80 : decode cX3_readBlend 80 = .ok (.getfield 34, 3) := by decide +kernel
theorem dX3_readBlend_83 : decode cX3_readBlend 83 = .ok (.ifCond .eq 11, 3) := by decide +kernel
theorem dX3_readBlend_86 : decode cX3_readBlend 86 = .ok (.iload_n 1, 1) := by decide +kernel
theorem dX3_readBlend_87 : decode cX3_readBlend 87 = .ok (.ifCond .eq 7, 3) := by decide +kernel
theorem dX3_readBlend_90 : decode cX3_readBlend 90 = .ok (.iconst 1, 1) := by decide +kernel
theorem dX3_readBlend_91 : decode cX3_readBlend 91 = .ok (.goto 4, 3) := by decide +kernel
theorem dX3_readBlend_94 : decode cX3_readBlend 94 = .ok (.iconst 0, 1) := by decide +kernel
theorem dX3_readBlend_95 : decode cX3_readBlend 95 = .ok (.putfield 34, 3) := by decide +kernel
theorem dX3_readBlend_98 : decode cX3_readBlend 98 = .ok (.aload_n 0, 1) := by decide +kernel
theorem dX3_readBlend_99 : decode cX3_readBlend 99 = .ok (.getfield 34, 3) := by decide +kernel
theorem dX3_readBlend_102 : decode cX3_readBlend 102 = .ok (.ireturn, 1) := by decide +kernel
theorem dX3_readPart_0 : decode cX3_readPart 0 = .ok (.aload_n 0, 1) := by decide +kernel
theorem dX3_readPart_1 : decode cX3_readPart 1 = .ok (.getfield 20, 3) := by decide +kernel
theorem dX3_readPart_4 : decode cX3_readPart 4 = .ok (.iload_n 1, 1) := by decide +kernel
theorem dX3_readPart_5 : decode cX3_readPart 5 = .ok (.iconst 0, 1) := by decide +kernel
theorem dX3_readPart_6 : decode cX3_readPart 6 = .ok (.aload_n 0, 1) := by decide +kernel
theorem dX3_readPart_7 : decode cX3_readPart 7 = .ok (.invokevirtual 58, 3) := by decide +kernel
theorem dX3_readPart_10 : decode cX3_readPart 10 = .ok (.invokevirtual 62, 3) := by decide +kernel
theorem dX3_readPart_13 : decode cX3_readPart 13 = .ok (.aload_n 0, 1) := by decide +kernel
theorem dX3_readPart_14 : decode cX3_readPart 14 = .ok (.bipush 58, 2) := by decide +kernel
theorem dX3_readPart_16 : decode cX3_readPart 16 = .ok (.invokevirtual 54, 3) := by decide +kernel
theorem dX3_readPart_19 : decode cX3_readPart 19 = .ok (.aload_n 0, 1) := by decide +kernel
theorem dX3_readPart_20 : decode cX3_readPart 20 = .ok (.getfield 20, 3) := by decide +kernel
theorem dX3_readPart_23 : decode cX3_readPart 23 = .ok (.iload_n 1, 1) := by decide +kernel
theorem dX3_readPart_24 : decode cX3_readPart 24 = .ok (.iconst 1, 1) := by decide +kernel
theorem dX3_readPart_25 : decode cX3_readPart 25 = .ok (.aload_n 0, 1) := by decide +kernel
theorem dX3_readPart_26 : decode cX3_readPart 26 = .ok (.invokevirtual 58, 3) := by decide +kernel
theorem dX3_readPart_29 : decode cX3_readPart 29 = .ok (.invokevirtual 62, 3) := by decide +kernel
theorem dX3_readPart_32 : decode cX3_readPart 32 = .ok (.aload_n 0, 1) := by decide +kernel
theorem dX3_readPart_33 : decode cX3_readPart 33 = .ok (.iload_n 1, 1) := by decide +kernel
theorem dX3_readPart_34 : decode cX3_readPart 34 = .ok (.iconst 1, 1) := by decide +kernel
theorem dX3_readPart_35 : decode cX3_readPart 35 = .ok (.iadd, 1) := by decide +kernel
theorem dX3_readPart_36 : decode cX3_readPart 36 = .ok (.putfield 28, 3) := by decide +kernel
theorem dX3_readPart_39 : decode cX3_readPart 39 = .ok (.return_, 1) := by decide +kernel
theorem dX3_nextSign_0 : decode cX3_nextSign 0 = .ok (.aload_n 0, 1) := by decide +kernel
theorem dX3_nextSign_1 : decode cX3_nextSign 1 = .ok (.getfield 31, 3) := by decide +kernel
theorem dX3_nextSign_4 : decode cX3_nextSign 4 = .ok (.ifCond .lt 38, 3) := by decide +kernel
theorem dX3_nextSign_7 : decode cX3_nextSign 7 = .ok (.aload_n 0, 1) := by decide +kernel
theorem dX3_nextSign_8 : decode cX3_nextSign 8 = .ok (.getfield 31, 3) := by decide +kernel
theorem dX3_nextSign_11 : decode cX3_nextSign 11 = .ok (.aload_n 0, 1) := by decide +kernel
theorem dX3_nextSign_12 : decode cX3_nextSign 12 = .ok (.getfield 24, 3) := by decide +kernel
theorem dX3_nextSign_15 : decode cX3_nextSign 15 = .ok (.if_icmp .ge 27, 3) := by decide +kernel
theorem dX3_nextSign_18 : decode cX3_nextSign 18 = .ok (.aload_n 0, 1) := by decide +kernel
theorem dX3_nextSign_19 : decode cX3_nextSign 19 = .ok (.getfield 31, 3) := by decide +kernel
theorem dX3_nextSign_22 : decode cX3_nextSign 22 = .ok (.aload_n 0, 1) := by decide +kernel
theorem dX3_nextSign_23 : decode cX3_nextSign 23 = .ok (.getfield 9, 3) := by decide +kernel
theorem dX3_nextSign_26 : decode cX3_nextSign 26 = .ok (.arraylength, 1) := by decide +kernel
theorem dX3_nextSign_27 : decode cX3_nextSign 27 = .ok (.if_icmp .ge 15, 3) := by decide +kernel
theorem dX3_nextSign_30 : decode cX3_nextSign 30 = .ok (.aload_n 0, 1) := by decide +kernel
theorem dX3_nextSign_31 : decode cX3_nextSign 31 = .ok (.getfield 9, 3) := by decide +kernel
theorem dX3_nextSign_34 : decode cX3_nextSign 34 = .ok (.aload_n 0, 1) := by decide +kernel
theorem dX3_nextSign_35 : decode cX3_nextSign 35 = .ok (.getfield 31, 3) := by decide +kernel
theorem dX3_nextSign_38 : decode cX3_nextSign 38 = .ok (.caload, 1) := by decide +kernel
theorem dX3_nextSign_39 : decode cX3_nextSign 39 = .ok (.goto 4, 3) := by decide +kernel
theorem dX3_nextSign_42 : decode cX3_nextSign 42 = .ok (.iconst (-1), 1) := by decide +kernel
theorem dX3_nextSign_43 : decode cX3_nextSign 43 = .ok (.ireturn, 1) := by decide +kernel
theorem dX3_hasDigit_0 : decode cX3_hasDigit 0 = .ok (.aload_n 0, 1) := by decide +kernel
theorem dX3_hasDigit_1 : decode cX3_hasDigit 1 = .ok (.invokevirtual 66, 3) := by decide +kernel
theorem dX3_hasDigit_4 : decode cX3_hasDigit 4 = .ok (.bipush 48, 2) := by decide +kernel
theorem dX3_hasDigit_6 : decode cX3_hasDigit 6 = .ok (.bipush 57, 2) := by decide +kernel
theorem dX3_hasDigit_8 : decode cX3_hasDigit 8 = .ok (.invokestatic 38, 3) := by decide +kernel
theorem dX3_hasDigit_11 : decode cX3_hasDigit 11 = .ok (.ireturn, 1) := by decide +kernel
theorem dX3_readSign_0 : decode cX3_readSign 0 = .ok (.aload_n 0, 1) := by decide +kernel
theorem dX3_readSign_1 : decode cX3_readSign 1 = .ok (.getfield 34, 3) := by decide +kernel
theorem dX3_readSign_4 : decode cX3_readSign 4 = .ok (.ifCond .eq 24, 3) := by decide +kernel
theorem dX3_readSign_7 : decode cX3_readSign 7 = .ok (.aload_n 0, 1) := by decide +kernel
theorem dX3_readSign_8 : decode cX3_readSign 8 = .ok (.invokevirtual 66, 3) := by decide +kernel
theorem dX3_readSign_11 : decode cX3_readSign 11 = .ok (.iload_n 1, 1) := by decide +kernel
theorem dX3_readSign_12 : decode cX3_readSign 12 = .ok (.if_icmp .ne 16, 3) := by decide +kernel
theorem dX3_readSign_15 : decode cX3_readSign 15 = .ok (.aload_n 0, 1) := by decide +kernel
theorem dX3_readSign_16 : decode cX3_readSign 16 = .ok (.dup, 1) := by decide +kernel
theorem dX3_readSign_17 : decode cX3_readSign 17 = .ok (.getfield 31, 3) := by decide +kernel
theorem dX3_readSign_20 : decode cX3_readSign 20 = .ok (.iconst 1, 1) := by decide +kernel
theorem dX3_readSign_21 : decode cX3_readSign 21 = .ok (.iadd, 1) := by decide +kernel
theorem dX3_readSign_22 : decode cX3_readSign 22 = .ok (.putfield 31, 3) := by decide +kernel
theorem dX3_readSign_25 : decode cX3_readSign 25 = .ok (.goto 8, 3) := by decide +kernel
theorem dX3_readSign_28 : decode cX3_readSign 28 = .ok (.aload_n 0, 1) := by decide +kernel
theorem dX3_readSign_29 : decode cX3_readSign 29 = .ok (.iconst 0, 1) := by decide +kernel
theorem dX3_readSign_30 : decode cX3_readSign 30 = .ok (.putfield 34, 3) := by decide +kernel
theorem dX3_readSign_33 : decode cX3_readSign 33 = .ok (.return_, 1) := by decide +kernel
theorem dX3_readNumber_0 : decode cX3_readNumber 0 = .ok (.aload_n 0, 1) := by decide +kernel
theorem dX3_readNumber_1 : decode cX3_readNumber 1 = .ok (.aload_n 0, 1) := by decide +kernel
theorem dX3_readNumber_2 : decode cX3_readNumber 2 = .ok (.getfield 34, 3) := by decide +kernel
theorem dX3_readNumber_5 : decode cX3_readNumber 5 = .ok (.ifCond .eq 14, 3) := by decide +kernel
theorem dX3_readNumber_8 : decode cX3_readNumber 8 = .ok (.aload_n 0, 1) := by decide +kernel
theorem dX3_readNumber_9 : decode cX3_readNumber 9 = .ok (.invokevirtual 69, 3) := by decide +kernel
theorem dX3_readNumber_12 : decode cX3_readNumber 12 = .ok (.ifCond .eq 7, 3) := by decide +kernel
theorem dX3_readNumber_15 : decode cX3_readNumber 15 = .ok (.iconst 1, 1) := by decide +kernel
theorem dX3_readNumber_16 : decode cX3_readNumber 16 = .ok (.goto 4, 3) := by decide +kernel
theorem dX3_readNumber_19 : decode cX3_readNumber 19 = .ok (.iconst 0, 1) := by decide +kernel
theorem dX3_readNumber_20 : decode cX3_readNumber 20 = .ok (.putfield 34, 3) := by decide +kernel
theorem dX3_readNumber_23 : decode cX3_readNumber 23 = .ok (.iconst 0, 1) := by decide +kernel
theorem dX3_readNumber_24 : decode cX3_readNumber 24 = .ok (.istore_n 1, 1) := by decide +kernel
theorem dX3_readNumber_25 : decode cX3_readNumber 25 = .ok (.aload_n 0, 1) := by decide +kernel
theorem dX3_readNumber_26 : decode cX3_readNumber 26 = .ok (.getfield 34, 3) := by decide +kernel
theorem dX3_readNumber_29 : decode cX3_readNumber 29 = .ok (.istore_n 2, 1) := by decide +kernel
theorem dX3_readNumber_30 : decode cX3_readNumber 30 = .ok (.iconst 0, 1) := by decide +kernel
theorem dX3_readNumber_31 : decode cX3_readNumber 31 = .ok (.istore_n 3, 1) := by decide +kernel
theorem dX3_readNumber_32 : decode cX3_readNumber 32 = .ok (.iload_n 3, 1) := by decide +kernel
theorem dX3_readNumber_33 : decode cX3_readNumber 33 = .ok (.iconst 4, 1) := by decide +kernel
theorem dX3_readNumber_34 : decode cX3_readNumber 34 = .ok (.if_icmp .ge 53, 3) := by decide +kernel
theorem dX3_readNumber_37 : decode cX3_readNumber 37 = .ok (.iload_n 2, 1) := by decide +kernel
theorem dX3_readNumber_38 : decode cX3_readNumber 38 = .ok (.ifCond .eq 49, 3) := by decide +kernel
theorem dX3_readNumber_41 : decode cX3_readNumber 41 = .ok (.aload_n 0, 1) := by decide +kernel
theorem dX3_readNumber_42 : decode cX3_readNumber 42 = .ok (.invokevirtual 69, 3) := by decide +kernel
theorem dX3_readNumber_45 : decode cX3_readNumber 45 = .ok (.ifCond .eq 42, 3) := by decide +kernel
theorem dX3_readNumber_48 : decode cX3_readNumber 48 = .ok (.iload_n 1, 1) := by decide +kernel
theorem dX3_readNumber_49 : decode cX3_readNumber 49 = .ok (.bipush 10, 2) := by decide +kernel
theorem dX3_readNumber_51 : decode cX3_readNumber 51 = .ok (.imul, 1) := by decide +kernel
theorem dX3_readNumber_52 : decode cX3_readNumber 52 = .ok (.aload_n 0, 1) := by decide +kernel
theorem dX3_readNumber_53 : decode cX3_readNumber 53 = .ok (.invokevirtual 66, 3) := by decide +kernel
theorem dX3_readNumber_56 : decode cX3_readNumber 56 = .ok (.bipush 48, 2) := by decide +kernel
theorem dX3_readNumber_58 : decode cX3_readNumber 58 = .ok (.isub, 1) := by decide +kernel
theorem dX3_readNumber_59 : decode cX3_readNumber 59 = .ok (.iadd, 1) := by decide +kernel
theorem dX3_readNumber_60 : decode cX3_readNumber 60 = .ok (.istore_n 1, 1) := by decide +kernel
theorem dX3_readNumber_61 : decode cX3_readNumber 61 = .ok (.aload_n 0, 1) := by decide +kernel
theorem dX3_readNumber_62 : decode cX3_readNumber 62 = .ok (.dup, 1) := by decide +kernel
theorem dX3_readNumber_63 : decode cX3_readNumber 63 = .ok (.getfield 31, 3) := by decide +kernel
theorem dX3_readNumber_66 : decode cX3_readNumber 66 = .ok (.iconst 1, 1) := by decide +kernel
theorem dX3_readNumber_67 : decode cX3_readNumber 67 = .ok (.iadd, 1) := by decide +kernel
theorem dX3_readNumber_68 : decode cX3_readNumber 68 = .ok (.putfield 31, 3) := by decide +kernel
theorem dX3_readNumber_71 : decode cX3_readNumber 71 = .ok (.iload_n 1, 1) := by decide +kernel
theorem dX3_readNumber_72 : decode cX3_readNumber 72 = .ok (.ifCond .eq 7, 3) := by decide +kernel
theorem dX3_readNumber_75 : decode cX3_readNumber 75 = .ok (.iconst 1, 1) := by decide +kernel
theorem dX3_readNumber_76 : decode cX3_readNumber 76 = .ok (.goto 4, 3) := by decide +kernel
theorem dX3_readNumber_79 : decode cX3_readNumber 79 = .ok (.iconst 0, 1) := by decide +kernel
theorem dX3_readNumber_80 : decode cX3_readNumber 80 = .ok (.istore_n 2, 1) := by decide +kernel
theorem dX3_readNumber_81 : decode cX3_readNumber 81 = .ok (.iinc 3 1, 3) := by decide +kernel
theorem dX3_readNumber_84 : decode cX3_readNumber 84 = .ok (.goto (-52), 3) := by decide +kernel
theorem dX3_readNumber_87 : decode cX3_readNumber 87 = .ok (.iload_n 1, 1) := by decide +kernel
theorem dX3_readNumber_88 : decode cX3_readNumber 88 = .ok (.ireturn, 1) := by decide +kernel
theorem dX4_init_0 : decode cX4_init 0 = .ok (.aload_n 0, 1) := by decide +kernel
theorem dX4_init_1 : decode cX4_init 1 = .ok (.invokespecial 3, 3) := by decide +kernel
theorem dX4_init_4 : decode cX4_init 4 = .ok (.aload_n 0, 1) := by decide +kernel
theorem dX4_init_5 : decode cX4_init 5 = .ok (.new 9, 3) := by decide +kernel
theorem dX4_init_8 : decode cX4_init 8 = .ok (.dup, 1) := by decide +kernel
theorem dX4_init_9 : decode cX4_init 9 = .ok (.bipush 24, 2) := by decide +kernel
theorem dX4_init_11 : decode cX4_init 11 = .ok (.iconst 5, 1) := by decide +kernel
theorem dX4_init_12 : decode cX4_init 12 = .ok (.invokespecial 11, 3) := by decide +kernel
theorem dX4_init_15 : decode cX4_init 15 = .ok (.putfield 14, 3) := by decide +kernel
theorem dX4_init_18 : decode cX4_init 18 = .ok (.aload_n 0, 1) := by decide +kernel
theorem dX4_init_19 : decode cX4_init 19 = .ok (.new 9, 3) := by decide +kernel
theorem dX4_init_22 : decode cX4_init 22 = .ok (.dup, 1) := by decide +kernel
theorem dX4_init_23 : decode cX4_init 23 = .ok (.bipush 24, 2) := by decide +kernel
theorem dX4_init_25 : decode cX4_init 25 = .ok (.iconst 4, 1) := by decide +kernel
theorem dX4_init_26 : decode cX4_init 26 = .ok (.invokespecial 11, 3) := by decide +kernel
theorem dX4_init_29 : decode cX4_init 29 = .ok (.putfield 20, 3) := by decide +kernel
theorem dX4_init_32 : decode cX4_init 32 = .ok (.aload_n 0, 1) := by decide +kernel
theorem dX4_init_33 : decode cX4_init 33 = .ok (.new 9, 3) := by decide +kernel
theorem dX4_init_36 : decode cX4_init 36 = .ok (.dup, 1) := by decide +kernel
theorem dX4_init_37 : decode cX4_init 37 = .ok (.bipush 24, 2) := by decide +kernel
theorem dX4_init_39 : decode cX4_init 39 = .ok (.iconst 4, 1) := by decide +kernel
theorem dX4_init_40 : decode cX4_init 40 = .ok (.invokespecial 11, 3) := by decide +kernel
theorem dX4_init_43 : decode cX4_init 43 = .ok (.putfield 23, 3) := by decide +kernel
theorem dX4_init_46 : decode cX4_init 46 = .ok (.aload_n 0, 1) := by decide +kernel
theorem dX4_init_47 : decode cX4_init 47 = .ok (.new 9, 3) := by decide +kernel
theorem dX4_init_50 : decode cX4_init 50 = .ok (.dup, 1) := by decide +kernel
theorem dX4_init_51 : decode cX4_init 51 = .ok (.bipush 24, 2) := by decide +kernel
theorem dX4_init_53 : decode cX4_init 53 = .ok (.bipush 12, 2) := by decide +kernel
theorem dX4_init_55 : decode cX4_init 55 = .ok (.invokespecial 11, 3) := by decide +kernel
theorem dX4_init_58 : decode cX4_init 58 = .ok (.putfield 26, 3) := by decide +kernel
theorem dX4_init_61 : decode cX4_init 61 = .ok (.aload_n 0, 1) := by decide +kernel
theorem dX4_init_62 : decode cX4_init 62 = .ok (.new 9, 3) := by decide +kernel
theorem dX4_init_65 : decode cX4_init 65 = .ok (.dup, 1) := by decide +kernel
theorem dX4_init_66 : decode cX4_init 66 = .ok (.bipush 12, 2) := by decide +kernel
theorem dX4_init_68 : decode cX4_init 68 = .ok (.iconst 3, 1) := by decide +kernel
theorem dX4_init_69 : decode cX4_init 69 = .ok (.invokespecial 11, 3) := by decide +kernel
theorem dX4_init_72 : decode cX4_init 72 = .ok (.putfield 29, 3) := by decide +kernel
theorem dX4_init_75 : decode cX4_init 75 = .ok (.aload_n 0, 1) := by decide +kernel
theorem dX4_init_76 : decode cX4_init 76 = .ok (.iconst 0, 1) := by decide +kernel
theorem dX4_init_77 : decode cX4_init 77 = .ok (.putfield 32, 3) := by decide +kernel
theorem dX4_init_80 : decode cX4_init 80 = .ok (.aload_n 0, 1) := by decide +kernel
theorem dX4_init_81 : decode cX4_init 81 = .ok (.iconst 0, 1) := by decide +kernel
theorem dX4_init_82 : decode cX4_init 82 = .ok (.putfield 36, 3) := by decide +kernel
theorem dX4_init_85 : decode cX4_init 85 = .ok (.aload_n 0, 1) := by decide +kernel
theorem dX4_init_86 : decode cX4_init 86 = .ok (.iconst 0, 1) := by decide +kernel
theorem dX4_init_87 : decode cX4_init 87 = .ok (.putfield 39, 3) := by decide +kernel
theorem dX4_init_90 : decode cX4_init 90 = .ok (.return_, 1) := by decide +kernel
theorem dX4_copyFrom_0 : decode cX4_copyFrom 0 = .ok (.aload_n 0, 1) := by decide +kernel
theorem dX4_copyFrom_1 : decode cX4_copyFrom 1 = .ok (.getfield 14, 3) := by decide +kernel
theorem dX4_copyFrom_4 : decode cX4_copyFrom 4 = .ok (.aload_n 1, 1) := by decide +kernel
theorem dX4_copyFrom_5 : decode cX4_copyFrom 5 = .ok (.getfield 14, 3) := by decide +kernel
theorem dX4_copyFrom_8 : decode cX4_copyFrom 8 = .ok (.invokevirtual 42, 3) := by decide +kernel
theorem dX4_copyFrom_11 : decode cX4_copyFrom 11 = .ok (.aload_n 0, 1) := by decide +kernel
theorem dX4_copyFrom_12 : decode cX4_copyFrom 12 = .ok (.getfield 20, 3) := by decide +kernel
theorem dX4_copyFrom_15 : decode cX4_copyFrom 15 = .ok (.aload_n 1, 1) := by decide +kernel
theorem dX4_copyFrom_16 : decode cX4_copyFrom 16 = .ok (.getfield 20, 3) := by decide +kernel
theorem dX4_copyFrom_19 : decode cX4_copyFrom 19 = .ok (.invokevirtual 42, 3) := by decide +kernel
theorem dX4_copyFrom_22 : decode cX4_copyFrom 22 = .ok (.aload_n 0, 1) := by decide +kernel
theorem dX4_copyFrom_23 : decode cX4_copyFrom 23 = .ok (.getfield 23, 3) := by decide +kernel
theorem dX4_copyFrom_26 : decode cX4_copyFrom 26 = .ok (.aload_n 1, 1) := by decide +kernel
theorem dX4_copyFrom_27 : decode cX4_copyFrom 27 = .ok (.getfield 23, 3) := by decide +kernel
theorem dX4_copyFrom_30 : decode cX4_copyFrom 30 = .ok (.invokevirtual 42, 3) := by decide +kernel
theorem dX4_copyFrom_33 : decode cX4_copyFrom 33 = .ok (.aload_n 0, 1) := by decide +kernel
theorem dX4_copyFrom_34 : decode cX4_copyFrom 34 = .ok (.getfield 26, 3) := by decide +kernel
theorem dX4_copyFrom_37 : decode cX4_copyFrom 37 = .ok (.aload_n 1, 1) := by decide +kernel
theorem dX4_copyFrom_38 : decode cX4_copyFrom 38 = .ok (.getfield 26, 3) := by decide +kernel
theorem dX4_copyFrom_41 : decode cX4_copyFrom 41 = .ok (.invokevirtual 42, 3) := by decide +kernel
theorem dX4_copyFrom_44 : decode cX4_copyFrom 44 = .ok (.aload_n 0, 1) := by decide +kernel
theorem dX4_copyFrom_45 : decode cX4_copyFrom 45 = .ok (.getfield 29, 3) := by decide +kernel
theorem dX4_copyFrom_48 : decode cX4_copyFrom 48 = .ok (.aload_n 1, 1) := by decide +kernel
theorem dX4_copyFrom_49 : decode cX4_copyFrom 49 = .ok (.getfield 29, 3) := by decide +kernel
theorem dX4_copyFrom_52 : decode cX4_copyFrom 52 = .ok (.invokevirtual 42, 3) := by decide +kernel
theorem dX4_copyFrom_55 : decode cX4_copyFrom 55 = .ok (.aload_n 0, 1) := by decide +kernel
theorem dX4_copyFrom_56 : decode cX4_copyFrom 56 = .ok (.aload_n 1, 1) := by decide +kernel
theorem dX4_copyFrom_57 : decode cX4_copyFrom 57 = .ok (.getfield 32, 3) := by decide +kernel
theorem dX4_copyFrom_60 : decode cX4_copyFrom 60 = .ok (.putfield 32, 3) := by decide +kernel
theorem dX4_copyFrom_63 : decode cX4_copyFrom 63 = .ok (.aload_n 0, 1) := by decide +kernel
theorem dX4_copyFrom_64 : decode cX4_copyFrom 64 = .ok (.aload_n 1, 1) := by decide +kernel
theorem dX4_copyFrom_65 : decode cX4_copyFrom 65 = .ok (.getfield 36, 3) := by decide +kernel
theorem dX4_copyFrom_68 : decode cX4_copyFrom 68 = .ok (.putfield 36, 3) := by decide +kernel
theorem dX4_copyFrom_71 : decode cX4_copyFrom 71 = .ok (.aload_n 0, 1) := by decide +kernel
theorem dX4_copyFrom_72 : decode cX4_copyFrom 72 = .ok (.aload_n 1, 1) := by decide +kernel
theorem dX4_copyFrom_73 : decode cX4_copyFrom 73 = .ok (.getfield 39, 3) := by decide +kernel
theorem dX4_copyFrom_76 : decode cX4_copyFrom 76 = .ok (.putfield 39, 3) := by decide +kernel
theorem dX4_copyFrom_79 : decode cX4_copyFrom 79 = .ok (.return_, 1) := by decide +kernel
theorem dX4_bringIn_0 : decode cX4_bringIn 0 = .ok (.aload_n 0, 1) := by decide +kernel
theorem dX4_bringIn_1 : decode cX4_bringIn 1 = .ok (.getfield 36, 3) := by decide +kernel
theorem dX4_bringIn_4 : decode cX4_bringIn 4 = .ok (.istore 5, 2) := by decide +kernel
theorem dX4_bringIn_6 : decode cX4_bringIn 6 = .ok (.aload_n 0, 1) := by decide +kernel
theorem dX4_bringIn_7 : decode cX4_bringIn 7 = .ok (.getfield 29, 3) := by decide +kernel
theorem dX4_bringIn_10 : decode cX4_bringIn 10 = .ok (.iload 5, 2) := by decide +kernel
theorem dX4_bringIn_12 : decode cX4_bringIn 12 = .ok (.iconst 0, 1) := by decide +kernel
theorem dX4_bringIn_13 : decode cX4_bringIn 13 = .ok (.iload_n 1, 1) := by decide +kernel
theorem dX4_bringIn_14 : decode cX4_bringIn 14 = .ok (.invokevirtual 46, 3) := by decide +kernel
theorem dX4_bringIn_17 : decode cX4_bringIn 17 = .ok (.aload_n 0, 1) := by decide +kernel
theorem dX4_bringIn_18 : decode cX4_bringIn 18 = .ok (.getfield 29, 3) := by decide +kernel
theorem dX4_bringIn_21 : decode cX4_bringIn 21 = .ok (.iload 5, 2) := by decide +kernel
theorem dX4_bringIn_23 : decode cX4_bringIn 23 = .ok (.iconst 1, 1) := by decide +kernel
theorem dX4_bringIn_24 : decode cX4_bringIn 24 = .ok (.iload_n 2, 1) := by decide +kernel
theorem dX4_bringIn_25 : decode cX4_bringIn 25 = .ok (.invokevirtual 46, 3) := by decide +kernel
theorem dX4_bringIn_28 : decode cX4_bringIn 28 = .ok (.aload_n 0, 1) := by decide +kernel
theorem dX4_bringIn_29 : decode cX4_bringIn 29 = .ok (.getfield 29, 3) := by decide +kernel
theorem dX4_bringIn_32 : decode cX4_bringIn 32 = .ok (.iload 5, 2) := by decide +kernel
theorem dX4_bringIn_34 : decode cX4_bringIn 34 = .ok (.iconst 2, 1) := by decide +kernel
theorem dX4_bringIn_35 : decode cX4_bringIn 35 = .ok (.iload_n 3, 1) := by decide +kernel
theorem dX4_bringIn_36 : decode cX4_bringIn 36 = .ok (.invokevirtual 46, 3) := by decide +kernel
theorem dX4_bringIn_39 : decode cX4_bringIn 39 = .ok (.aload_n 0, 1) := by decide +kernel
theorem dX4_bringIn_40 : decode cX4_bringIn 40 = .ok (.dup, 1) := by decide +kernel
theorem dX4_bringIn_41 : decode cX4_bringIn 41 = .ok (.getfield 36, 3) := by decide +kernel
theorem dX4_bringIn_44 : decode cX4_bringIn 44 = .ok (.iconst 1, 1) := by decide +kernel
theorem dX4_bringIn_45 : decode cX4_bringIn 45 = .ok (.iadd, 1) := by decide +kernel
theorem dX4_bringIn_46 : decode cX4_bringIn 46 = .ok (.putfield 36, 3) := by decide +kernel
theorem dX4_bringIn_49 : decode cX4_bringIn 49 = .ok (.aload_n 0, 1) := by decide +kernel
theorem dX4_bringIn_50 : decode cX4_bringIn 50 = .ok (.iload 4, 2) := by decide +kernel
theorem dX4_bringIn_52 : decode cX4_bringIn 52 = .ok (.iconst 0, 1) := by decide +kernel
theorem dX4_bringIn_53 : decode cX4_bringIn 53 = .ok (.iconst 0, 1) := by decide +kernel
theorem dX4_bringIn_54 : decode cX4_bringIn 54 = .ok (.iload 5, 2) := by decide +kernel
theorem dX4_bringIn_56 : decode cX4_bringIn 56 = .ok (.invokevirtual 50, 3) := by decide +kernel
theorem dX4_bringIn_59 : decode cX4_bringIn 59 = .ok (.istore 6, 2) := by decide +kernel
theorem dX4_bringIn_61 : decode cX4_bringIn 61 = .ok (.aload_n 0, 1) := by decide +kernel
theorem dX4_bringIn_62 : decode cX4_bringIn 62 = .ok (.getfield 26, 3) := by decide +kernel
theorem dX4_bringIn_65 : decode cX4_bringIn 65 = .ok (.iload 6, 2) := by decide +kernel
theorem dX4_bringIn_67 : decode cX4_bringIn 67 = .ok (.iload 5, 2) := by decide +kernel
theorem dX4_bringIn_69 : decode cX4_bringIn 69 = .ok (.sipush 1000, 3) := by decide +kernel
theorem dX4_bringIn_72 : decode cX4_bringIn 72 = .ok (.invokevirtual 46, 3) := by decide +kernel
theorem dX4_bringIn_75 : decode cX4_bringIn 75 = .ok (.iload 6, 2) := by decide +kernel
theorem dX4_bringIn_77 : decode cX4_bringIn 77 = .ok (.ireturn, 1) := by decide +kernel
theorem dX4_mix_0 : decode cX4_mix 0 = .ok (.iconst 0, 1) := by decide +kernel
theorem dX4_mix_1 : decode cX4_mix 1 = .ok (.istore_n 3, 1) := by decide +kernel
theorem dX4_mix_2 : decode cX4_mix 2 = .ok (.iconst 0, 1) := by decide +kernel
theorem dX4_mix_3 : decode cX4_mix 3 = .ok (.istore 4, 2) := by decide +kernel
theorem dX4_mix_5 : decode cX4_mix 5 = .ok (.iload 4, 2) := by decide +kernel
theorem dX4_mix_7 : decode cX4_mix 7 = .ok (.aload_n 1, 1) := by decide +kernel
theorem dX4_mix_8 : decode cX4_mix 8 = .ok (.getfield 54, 3) := by decide +kernel
theorem dX4_mix_11 : decode cX4_mix 11 = .ok (.if_icmp .ge 18, 3) := by decide +kernel
theorem dX4_mix_14 : decode cX4_mix 14 = .ok (.iload_n 3, 1) := by decide +kernel
theorem dX4_mix_15 : decode cX4_mix 15 = .ok (.aload_n 1, 1) := by decide +kernel
theorem dX4_mix_16 : decode cX4_mix 16 = .ok (.iload 4, 2) := by decide +kernel
theorem dX4_mix_18 : decode cX4_mix 18 = .ok (.invokevirtual 59, 3) := by decide +kernel
theorem dX4_mix_21 : decode cX4_mix 21 = .ok (.iadd, 1) := by decide +kernel
theorem dX4_mix_22 : decode cX4_mix 22 = .ok (.istore_n 3, 1) := by decide +kernel
theorem dX4_mix_23 : decode cX4_mix 23 = .ok (.iinc 4 1, 3) := by decide +kernel
theorem dX4_mix_26 : decode cX4_mix 26 = .ok (.goto (-21), 3) := by decide +kernel
theorem dX4_mix_29 : decode cX4_mix 29 = .ok (.aload_n 0, 1) := by decide +kernel
theorem dX4_mix_30 : decode cX4_mix 30 = .ok (.iload_n 3, 1) := by decide +kernel
theorem dX4_mix_31 : decode cX4_mix 31 = .ok (.aload_n 1, 1) := by decide +kernel
theorem dX4_mix_32 : decode cX4_mix 32 = .ok (.getfield 54, 3) := by decide +kernel
theorem dX4_mix_35 : decode cX4_mix 35 = .ok (.aload_n 0, 1) := by decide +kernel
theorem dX4_mix_36 : decode cX4_mix 36 = .ok (.aload_n 1, 1) := by decide +kernel
theorem dX4_mix_37 : decode cX4_mix 37 = .ok (.invokevirtual 63, 3) := by decide +kernel
theorem dX4_mix_40 : decode cX4_mix 40 = .ok (.iconst (-1), 1) := by decide +kernel
theorem dX4_mix_41 : decode cX4_mix 41 = .ok (.invokevirtual 50, 3) := by decide +kernel
theorem dX4_mix_44 : decode cX4_mix 44 = .ok (.istore 4, 2) := by decide +kernel
theorem dX4_mix_46 : decode cX4_mix 46 = .ok (.iconst 0, 1) := by decide +kernel
theorem dX4_mix_47 : decode cX4_mix 47 = .ok (.istore 5, 2) := by decide +kernel
theorem dX4_mix_49 : decode cX4_mix 49 = .ok (.iload 5, 2) := by decide +kernel
theorem dX4_mix_51 : decode cX4_mix 51 = .ok (.aload_n 1, 1) := by decide +kernel
theorem dX4_mix_52 : decode cX4_mix 52 = .ok (.getfield 54, 3) := by decide +kernel
theorem dX4_mix_55 : decode cX4_mix 55 = .ok (.if_icmp .ge 59, 3) := by decide +kernel
theorem dX4_mix_58 : decode cX4_mix 58 = .ok (.aload_n 0, 1) := by decide +kernel
theorem dX4_mix_59 : decode cX4_mix 59 = .ok (.getfield 20, 3) := by decide +kernel
theorem dX4_mix_62 : decode cX4_mix 62 = .ok (.iload 4, 2) := by decide +kernel
theorem dX4_mix_64 : decode cX4_mix 64 = .ok (.iload 5, 2) := by decide +kernel
theorem dX4_mix_66 : decode cX4_mix 66 = .ok (.aload_n 1, 1) := by decide +kernel
theorem dX4_mix_67 : decode cX4_mix 67 = .ok (.iload 5, 2) := by decide +kernel
theorem dX4_mix_69 : decode cX4_mix 69 = .ok (.invokevirtual 67, 3) := by decide +kernel
theorem dX4_mix_72 : decode cX4_mix 72 = .ok (.invokevirtual 46, 3) := by decide +kernel
theorem dX4_mix_75 : decode cX4_mix 75 = .ok (.aload_n 0, 1) := by decide +kernel
theorem dX4_mix_76 : decode cX4_mix 76 = .ok (.getfield 23, 3) := by decide +kernel
theorem dX4_mix_79 : decode cX4_mix 79 = .ok (.iload 4, 2) := by decide +kernel
theorem dX4_mix_81 : decode cX4_mix 81 = .ok (.iload 5, 2) := by decide +kernel
theorem dX4_mix_83 : decode cX4_mix 83 = .ok (.aload_n 1, 1) := by decide +kernel
theorem dX4_mix_84 : decode cX4_mix 84 = .ok (.iload 5, 2) := by decide +kernel
theorem dX4_mix_86 : decode cX4_mix 86 = .ok (.invokevirtual 59, 3) := by decide +kernel
theorem dX4_mix_89 : decode cX4_mix 89 = .ok (.invokevirtual 46, 3) := by decide +kernel
theorem dX4_mix_92 : decode cX4_mix 92 = .ok (.aload_n 0, 1) := by decide +kernel
theorem dX4_mix_93 : decode cX4_mix 93 = .ok (.aload_n 1, 1) := by decide +kernel
theorem dX4_mix_94 : decode cX4_mix 94 = .ok (.iload 5, 2) := by decide +kernel
theorem dX4_mix_96 : decode cX4_mix 96 = .ok (.invokevirtual 67, 3) := by decide +kernel
theorem dX4_mix_99 : decode cX4_mix 99 = .ok (.aload_n 1, 1) := by decide +kernel
theorem dX4_mix_100 : decode cX4_mix 100 = .ok (.iload 5, 2) := by decide +kernel
theorem dX4_mix_102 : decode cX4_mix 102 = .ok (.invokevirtual 59, 3) := by decide +kernel
theorem dX4_mix_105 : decode cX4_mix 105 = .ok (.invokevirtual 70, 3) := by decide +kernel
theorem dX4_mix_108 : decode cX4_mix 108 = .ok (.iinc 5 1, 3) := by decide +kernel
theorem dX4_mix_111 : decode cX4_mix 111 = .ok (.goto (-62), 3) := by decide +kernel
theorem dX4_mix_114 : decode cX4_mix 114 = .ok (.aload_n 0, 1) := by decide +kernel
theorem dX4_mix_115 : decode cX4_mix 115 = .ok (.iload 4, 2) := by decide +kernel
theorem dX4_mix_117 : decode cX4_mix 117 = .ok (.iload_n 3, 1) := by decide +kernel
theorem dX4_mix_118 : decode cX4_mix 118 = .ok (.aload_n 2, 1) := by decide +kernel
theorem dX4_mix_119 : decode cX4_mix 119 = .ok (.invokevirtual 73, 3) := by decide +kernel
theorem dX4_mix_122 : decode cX4_mix 122 = .ok (.iload 4, 2) := by decide +kernel
theorem dX4_mix_124 : decode cX4_mix 124 = .ok (.ireturn, 1) := by decide +kernel
theorem dX4_enter_0 : decode cX4_enter 0 = .ok (.aload_n 0, 1) := by decide +kernel
theorem dX4_enter_1 : decode cX4_enter 1 = .ok (.getfield 32, 3) := by decide +kernel
theorem dX4_enter_4 : decode cX4_enter 4 = .ok (.istore 5, 2) := by decide +kernel
theorem dX4_enter_6 : decode cX4_enter 6 = .ok (.aload_n 0, 1) := by decide +kernel
theorem dX4_enter_7 : decode cX4_enter 7 = .ok (.getfield 14, 3) := by decide +kernel
theorem dX4_enter_10 : decode cX4_enter 10 = .ok (.iload 5, 2) := by decide +kernel
theorem dX4_enter_12 : decode cX4_enter 12 = .ok (.iconst 0, 1) := by decide +kernel
theorem dX4_enter_13 : decode cX4_enter 13 = .ok (.iload_n 1, 1) := by decide +kernel
theorem dX4_enter_14 : decode cX4_enter 14 = .ok (.invokevirtual 46, 3) := by decide +kernel
theorem dX4_enter_17 : decode cX4_enter 17 = .ok (.aload_n 0, 1) := by decide +kernel
theorem dX4_enter_18 : decode cX4_enter 18 = .ok (.getfield 14, 3) := by decide +kernel
theorem dX4_enter_21 : decode cX4_enter 21 = .ok (.iload 5, 2) := by decide +kernel
theorem dX4_enter_23 : decode cX4_enter 23 = .ok (.iconst 1, 1) := by decide +kernel
theorem dX4_enter_24 : decode cX4_enter 24 = .ok (.iload_n 1, 1) := by decide +kernel
theorem dX4_enter_25 : decode cX4_enter 25 = .ok (.invokevirtual 46, 3) := by decide +kernel
theorem dX4_enter_28 : decode cX4_enter 28 = .ok (.aload_n 0, 1) := by decide +kernel
theorem dX4_enter_29 : decode cX4_enter 29 = .ok (.getfield 14, 3) := by decide +kernel
theorem dX4_enter_32 : decode cX4_enter 32 = .ok (.iload 5, 2) := by decide +kernel
theorem dX4_enter_34 : decode cX4_enter 34 = .ok (.iconst 2, 1) := by decide +kernel
theorem dX4_enter_35 : decode cX4_enter 35 = .ok (.iload_n 2, 1) := by decide +kernel
theorem dX4_enter_36 : decode cX4_enter 36 = .ok (.invokevirtual 46, 3) := by decide +kernel
theorem dX4_enter_39 : decode cX4_enter 39 = .ok (.aload_n 0, 1) := by decide +kernel
theorem dX4_enter_40 : decode cX4_enter 40 = .ok (.getfield 14, 3) := by decide +kernel
theorem dX4_enter_43 : decode cX4_enter 43 = .ok (.iload 5, 2) := by decide +kernel
theorem dX4_enter_45 : decode cX4_enter 45 = .ok (.iconst 3, 1) := by decide +kernel
theorem dX4_enter_46 : decode cX4_enter 46 = .ok (.iload_n 3, 1) := by decide +kernel
theorem dX4_enter_47 : decode cX4_enter 47 = .ok (.invokevirtual 46, 3) := by decide +kernel
theorem dX4_enter_50 : decode cX4_enter 50 = .ok (.aload_n 0, 1) := by decide +kernel
theorem dX4_enter_51 : decode cX4_enter 51 = .ok (.getfield 14, 3) := by decide +kernel
theorem dX4_enter_54 : decode cX4_enter 54 = .ok (.iload 5, 2) := by decide +kernel
theorem dX4_enter_56 : decode cX4_enter 56 = .ok (.iconst 4, 1) := by decide +kernel
theorem dX4_enter_57 : decode cX4_enter 57 = .ok (.iload 4, 2) := by decide +kernel
theorem dX4_enter_59 : decode cX4_enter 59 = .ok (.invokevirtual 46, 3) := by decide +kernel
theorem dX4_enter_62 : decode cX4_enter 62 = .ok (.aload_n 0, 1) := by decide +kernel
theorem dX4_enter_63 : decode cX4_enter 63 = .ok (.dup, 1) := by decide +kernel
theorem dX4_enter_64 : decode cX4_enter 64 = .ok (.getfield 32, 3) := by decide +kernel
theorem dX4_enter_67 : decode cX4_enter 67 = .ok (.iconst 1, 1) := by decide +kernel
theorem dX4_enter_68 : decode cX4_enter 68 = .ok (.iadd, 1) := by decide +kernel
theorem dX4_enter_69 : decode cX4_enter 69 = .ok (.putfield 32, 3) := by decide +kernel
theorem dX4_enter_72 : decode cX4_enter 72 = .ok (.iload 5, 2) := by decide +kernel
theorem dX4_enter_74 : decode cX4_enter 74 = .ok (.ireturn, 1) := by decide +kernel
theorem dX4_take_0 : decode cX4_take 0 = .ok (.aload_n 0, 1) := by decide +kernel
theorem dX4_take_1 : decode cX4_take 1 = .ok (.getfield 14, 3) := by decide +kernel
theorem dX4_take_4 : decode cX4_take 4 = .ok (.iload_n 1, 1) := by decide +kernel
theorem dX4_take_5 : decode cX4_take 5 = .ok (.iconst 1, 1) := by decide +kernel
theorem dX4_take_6 : decode cX4_take 6 = .ok (.iload_n 2, 1) := by decide +kernel
theorem dX4_take_7 : decode cX4_take 7 = .ok (.ineg, 1) := by decide +kernel
theorem dX4_take_8 : decode cX4_take 8 = .ok (.invokevirtual 77, 3) := by decide +kernel
theorem dX4_take_11 : decode cX4_take 11 = .ok (.return_, 1) := by decide +kernel
theorem dX4_leftIn_0 : decode cX4_leftIn 0 = .ok (.aload_n 0, 1) := by decide +kernel
theorem dX4_leftIn_1 : decode cX4_leftIn 1 = .ok (.getfield 14, 3) := by decide +kernel
theorem dX4_leftIn_4 : decode cX4_leftIn 4 = .ok (.iload_n 1, 1) := by decide +kernel
theorem dX4_leftIn_5 : decode cX4_leftIn 5 = .ok (.iconst 1, 1) := by decide +kernel
theorem dX4_leftIn_6 : decode cX4_leftIn 6 = .ok (.invokevirtual 80, 3) := by decide +kernel
theorem dX4_leftIn_9 : decode cX4_leftIn 9 = .ok (.ireturn, 1) := by decide +kernel
theorem dX4_partsOf_0 : decode cX4_partsOf 0 = .ok (.aload_n 0, 1) := by decide +kernel
theorem dX4_partsOf_1 : decode cX4_partsOf 1 = .ok (.getfield 14, 3) := by decide +kernel
theorem dX4_partsOf_4 : decode cX4_partsOf 4 = .ok (.iload_n 1, 1) := by decide +kernel
theorem dX4_partsOf_5 : decode cX4_partsOf 5 = .ok (.iconst 2, 1) := by decide +kernel
theorem dX4_partsOf_6 : decode cX4_partsOf 6 = .ok (.invokevirtual 80, 3) := by decide +kernel
theorem dX4_partsOf_9 : decode cX4_partsOf 9 = .ok (.ireturn, 1) := by decide +kernel
theorem dX4_refusalOf_0 : decode cX4_refusalOf 0 = .ok (.aload_n 0, 1) := by decide +kernel
theorem dX4_refusalOf_1 : decode cX4_refusalOf 1 = .ok (.aload_n 1, 1) := by decide +kernel
theorem dX4_refusalOf_2 : decode cX4_refusalOf 2 = .ok (.invokevirtual 84, 3) := by decide +kernel
theorem dX4_refusalOf_5 : decode cX4_refusalOf 5 = .ok (.ifCond .eq 5, 3) := by decide +kernel
theorem dX4_refusalOf_8 : decode cX4_refusalOf 8 = .ok (.iconst 1, 1) := by decide +kernel
theorem dX4_refusalOf_9 : decode cX4_refusalOf 9 = .ok (.ireturn, 1) := by decide +kernel
theorem dX4_refusalOf_10 : decode cX4_refusalOf 10 = .ok (.aload_n 0, 1) := by decide +kernel
theorem dX4_refusalOf_11 : decode cX4_refusalOf 11 = .ok (.aload_n 1, 1) := by decide +kernel
theorem dX4_refusalOf_12 : decode cX4_refusalOf 12 = .ok (.invokevirtual 88, 3) := by decide +kernel
theorem dX4_refusalOf_15 : decode cX4_refusalOf 15 = .ok (.ifCond .eq 5, 3) := by decide +kernel
theorem dX4_refusalOf_18 : decode cX4_refusalOf 18 = .ok (.iconst 2, 1) := by decide +kernel
theorem dX4_refusalOf_19 : decode cX4_refusalOf 19 = .ok (.ireturn, 1) := by decide +kernel
theorem dX4_refusalOf_20 : decode cX4_refusalOf 20 = .ok (.aload_n 0, 1) := by decide +kernel
theorem dX4_refusalOf_21 : decode cX4_refusalOf 21 = .ok (.aload_n 1, 1) := by decide +kernel
theorem dX4_refusalOf_22 : decode cX4_refusalOf 22 = .ok (.invokevirtual 63, 3) := by decide +kernel
theorem dX4_refusalOf_25 : decode cX4_refusalOf 25 = .ok (.iconst 4, 1) := by decide +kernel
theorem dX4_refusalOf_26 : decode cX4_refusalOf 26 = .ok (.if_icmp .le 5, 3) := by decide +kernel
theorem dX4_refusalOf_29 : decode cX4_refusalOf 29 = .ok (.iconst 3, 1) := by decide +kernel
theorem dX4_refusalOf_30 : decode cX4_refusalOf 30 = .ok (.ireturn, 1) := by decide +kernel
theorem dX4_refusalOf_31 : decode cX4_refusalOf 31 = .ok (.aload_n 0, 1) := by decide +kernel
theorem dX4_refusalOf_32 : decode cX4_refusalOf 32 = .ok (.getfield 32, 3) := by decide +kernel
theorem dX4_refusalOf_35 : decode cX4_refusalOf 35 = .ok (.bipush 24, 2) := by decide +kernel
theorem dX4_refusalOf_37 : decode cX4_refusalOf 37 = .ok (.if_icmp .lt 7, 3) := by decide +kernel
theorem dX4_refusalOf_40 : decode cX4_refusalOf 40 = .ok (.iconst 4, 1) := by decide +kernel
theorem dX4_refusalOf_41 : decode cX4_refusalOf 41 = .ok (.goto 4, 3) := by decide +kernel
theorem dX4_refusalOf_44 : decode cX4_refusalOf 44 = .ok (.iconst 0, 1) := by decide +kernel
theorem dX4_refusalOf_45 : decode cX4_refusalOf 45 = .ok (.ireturn, 1) := by decide +kernel
theorem dX4_hasWrongParts_0 : decode cX4_hasWrongParts 0 = .ok (.iconst 0, 1) := by decide +kernel
theorem dX4_hasWrongParts_1 : decode cX4_hasWrongParts 1 = .ok (.istore_n 2, 1) := by decide +kernel
theorem dX4_hasWrongParts_2 : decode cX4_hasWrongParts 2 = .ok (.iload_n 2, 1) := by decide +kernel
theorem dX4_hasWrongParts_3 : decode cX4_hasWrongParts 3 = .ok (.aload_n 1, 1) := by decide +kernel
theorem dX4_hasWrongParts_4 : decode cX4_hasWrongParts 4 = .ok (.getfield 54, 3) := by decide +kernel
theorem dX4_hasWrongParts_7 : decode cX4_hasWrongParts 7 = .ok (.if_icmp .ge 51, 3) := by decide +kernel
theorem dX4_hasWrongParts_10 : decode cX4_hasWrongParts 10 = .ok (.aload_n 1, 1) := by decide +kernel
theorem dX4_hasWrongParts_11 : decode cX4_hasWrongParts 11 = .ok (.iload_n 2, 1) := by decide +kernel
theorem dX4_hasWrongParts_12 : decode cX4_hasWrongParts 12 = .ok (.invokevirtual 67, 3) := by decide +kernel
theorem dX4_hasWrongParts_15 : decode cX4_hasWrongParts 15 = .ok (.aload_n 0, 1) := by decide +kernel
theorem dX4_hasWrongParts_16 : decode cX4_hasWrongParts 16 = .ok (.getfield 32, 3) := by decide +kernel
theorem dX4_hasWrongParts_19 : decode cX4_hasWrongParts 19 = .ok (.if_icmp .lt 5, 3) := by decide +kernel
theorem dX4_hasWrongParts_22 : decode cX4_hasWrongParts 22 = .ok (.iconst 1, 1) := by decide +kernel
theorem dX4_hasWrongParts_23 : decode cX4_hasWrongParts 23 = .ok (.ireturn, 1) := by decide +kernel
theorem dX4_hasWrongParts_24 : decode cX4_hasWrongParts 24 = .ok (.iconst 0, 1) := by decide +kernel
theorem dX4_hasWrongParts_25 : decode cX4_hasWrongParts 25 = .ok (.istore_n 3, 1) := by decide +kernel
theorem dX4_hasWrongParts_26 : decode cX4_hasWrongParts 26 = .ok (.iload_n 3, 1) := by decide +kernel
theorem dX4_hasWrongParts_27 : decode cX4_hasWrongParts 27 = .ok (.iload_n 2, 1) := by decide +kernel
theorem dX4_hasWrongParts_28 : decode cX4_hasWrongParts 28 = .ok (.if_icmp .ge 24, 3) := by decide +kernel
theorem dX4_hasWrongParts_31 : decode cX4_hasWrongParts 31 = .ok (.aload_n 1, 1) := by decide +kernel
theorem dX4_hasWrongParts_32 : decode cX4_hasWrongParts 32 = .ok (.iload_n 3, 1) := by decide +kernel
theorem dX4_hasWrongParts_33 : decode cX4_hasWrongParts 33 = .ok (.invokevirtual 67, 3) := by decide +kernel
theorem dX4_hasWrongParts_36 : decode cX4_hasWrongParts 36 = .ok (.aload_n 1, 1) := by decide +kernel
theorem dX4_hasWrongParts_37 : decode cX4_hasWrongParts 37 = .ok (.iload_n 2, 1) := by decide +kernel
theorem dX4_hasWrongParts_38 : decode cX4_hasWrongParts 38 = .ok (.invokevirtual 67, 3) := by decide +kernel
theorem dX4_hasWrongParts_41 : decode cX4_hasWrongParts 41 = .ok (.if_icmp .ne 5, 3) := by decide +kernel
theorem dX4_hasWrongParts_44 : decode cX4_hasWrongParts 44 = .ok (.iconst 1, 1) := by decide +kernel
theorem dX4_hasWrongParts_45 : decode cX4_hasWrongParts 45 = .ok (.ireturn, 1) := by decide +kernel
theorem dX4_hasWrongParts_46 : decode cX4_hasWrongParts 46 = .ok (.iinc 3 1, 3) := by decide +kernel
theorem dX4_hasWrongParts_49 : decode cX4_hasWrongParts 49 = .ok (.goto (-23), 3) := by decide +kernel
theorem dX4_hasWrongParts_52 : decode cX4_hasWrongParts 52 = .ok (.iinc 2 1, 3) := by decide +kernel
theorem dX4_hasWrongParts_55 : decode cX4_hasWrongParts 55 = .ok (.goto (-53), 3) := by decide +kernel
theorem dX4_hasWrongParts_58 : decode cX4_hasWrongParts 58 = .ok (.iconst 0, 1) := by decide +kernel
theorem dX4_hasWrongParts_59 : decode cX4_hasWrongParts 59 = .ok (.ireturn, 1) := by decide +kernel
theorem dX4_hasTooGreatPart_0 : decode cX4_hasTooGreatPart 0 = .ok (.iconst 0, 1) := by decide +kernel
theorem dX4_hasTooGreatPart_1 : decode cX4_hasTooGreatPart 1 = .ok (.istore_n 2, 1) := by decide +kernel
theorem dX4_hasTooGreatPart_2 : decode cX4_hasTooGreatPart 2 = .ok (.iload_n 2, 1) := by decide +kernel
theorem dX4_hasTooGreatPart_3 : decode cX4_hasTooGreatPart 3 = .ok (.aload_n 1, 1) := by decide +kernel
theorem dX4_hasTooGreatPart_4 : decode cX4_hasTooGreatPart 4 = .ok (.getfield 54, 3) := by decide +kernel
theorem dX4_hasTooGreatPart_7 : decode cX4_hasTooGreatPart 7 = .ok (.if_icmp .ge 28, 3) := by decide +kernel
theorem dX4_hasTooGreatPart_10 : decode cX4_hasTooGreatPart 10 = .ok (.aload_n 1, 1) := by decide +kernel
theorem dX4_hasTooGreatPart_11 : decode cX4_hasTooGreatPart 11 = .ok (.iload_n 2, 1) := by decide +kernel
theorem dX4_hasTooGreatPart_12 : decode cX4_hasTooGreatPart 12 = .ok (.invokevirtual 59, 3) := by decide +kernel
theorem dX4_hasTooGreatPart_15 : decode cX4_hasTooGreatPart 15 = .ok (.aload_n 0, 1) := by decide +kernel
theorem dX4_hasTooGreatPart_16 : decode cX4_hasTooGreatPart 16 = .ok (.aload_n 1, 1) := by decide +kernel
theorem dX4_hasTooGreatPart_17 : decode cX4_hasTooGreatPart 17 = .ok (.iload_n 2, 1) := by decide +kernel
theorem dX4_hasTooGreatPart_18 : decode cX4_hasTooGreatPart 18 = .ok (.invokevirtual 67, 3) := by decide +kernel
theorem dX4_hasTooGreatPart_21 : decode cX4_hasTooGreatPart 21 = .ok (.invokevirtual 91, 3) := by decide +kernel
theorem dX4_hasTooGreatPart_24 : decode cX4_hasTooGreatPart 24 = .ok (.if_icmp .le 5, 3) := by decide +kernel
theorem dX4_hasTooGreatPart_27 : decode cX4_hasTooGreatPart 27 = .ok (.iconst 1, 1) := by decide +kernel
theorem dX4_hasTooGreatPart_28 : decode cX4_hasTooGreatPart 28 = .ok (.ireturn, 1) := by decide +kernel
theorem dX4_hasTooGreatPart_29 : decode cX4_hasTooGreatPart 29 = .ok (.iinc 2 1, 3) := by decide +kernel
theorem dX4_hasTooGreatPart_32 : decode cX4_hasTooGreatPart 32 = .ok (.goto (-30), 3) := by decide +kernel
theorem dX4_hasTooGreatPart_35 : decode cX4_hasTooGreatPart 35 = .ok (.iconst 0, 1) := by decide +kernel
theorem dX4_hasTooGreatPart_36 : decode cX4_hasTooGreatPart 36 = .ok (.ireturn, 1) := by decide +kernel
theorem dX4_generationOf_0 : decode cX4_generationOf 0 = .ok (.iconst 0, 1) := by decide +kernel
theorem dX4_generationOf_1 : decode cX4_generationOf 1 = .ok (.istore_n 2, 1) := by decide +kernel
theorem dX4_generationOf_2 : decode cX4_generationOf 2 = .ok (.iconst 0, 1) := by decide +kernel
theorem dX4_generationOf_3 : decode cX4_generationOf 3 = .ok (.istore_n 3, 1) := by decide +kernel
theorem dX4_generationOf_4 : decode cX4_generationOf 4 = .ok (.iload_n 3, 1) := by decide +kernel
theorem dX4_generationOf_5 : decode cX4_generationOf 5 = .ok (.aload_n 1, 1) := by decide +kernel
theorem dX4_generationOf_6 : decode cX4_generationOf 6 = .ok (.getfield 54, 3) := by decide +kernel
theorem dX4_generationOf_9 : decode cX4_generationOf 9 = .ok (.if_icmp .ge 27, 3) := by decide +kernel
theorem dX4_generationOf_12 : decode cX4_generationOf 12 = .ok (.iload_n 2, 1) := by decide +kernel
theorem dX4_generationOf_13 : decode cX4_generationOf 13 = .ok (.aload_n 0, 1) := by decide +kernel
theorem dX4_generationOf_14 : decode cX4_generationOf 14 = .ok (.getfield 14, 3) := by decide +kernel
theorem dX4_generationOf_17 : decode cX4_generationOf 17 = .ok (.aload_n 1, 1) := by decide +kernel
theorem dX4_generationOf_18 : decode cX4_generationOf 18 = .ok (.iload_n 3, 1) := by decide +kernel
theorem dX4_generationOf_19 : decode cX4_generationOf 19 = .ok (.invokevirtual 67, 3) := by decide +kernel
theorem dX4_generationOf_22 : decode cX4_generationOf 22 = .ok (.iconst 3, 1) := by decide +kernel
theorem dX4_generationOf_23 : decode cX4_generationOf 23 = .ok (.invokevirtual 80, 3) := by decide +kernel
theorem dX4_generationOf_26 : decode cX4_generationOf 26 = .ok (.invokestatic 94, 3) := by decide +kernel
theorem dX4_generationOf_29 : decode cX4_generationOf 29 = .ok (.istore_n 2, 1) := by decide +kernel
theorem dX4_generationOf_30 : decode cX4_generationOf 30 = .ok (.iinc 3 1, 3) := by decide +kernel
theorem dX4_generationOf_33 : decode cX4_generationOf 33 = .ok (.goto (-29), 3) := by decide +kernel
theorem dX4_generationOf_36 : decode cX4_generationOf 36 = .ok (.iload_n 2, 1) := by decide +kernel
theorem dX4_generationOf_37 : decode cX4_generationOf 37 = .ok (.iconst 1, 1) := by decide +kernel
theorem dX4_generationOf_38 : decode cX4_generationOf 38 = .ok (.iadd, 1) := by decide +kernel
theorem dX4_generationOf_39 : decode cX4_generationOf 39 = .ok (.ireturn, 1) := by decide +kernel
theorem dX4_mixShares_0 : decode cX4_mixShares 0 = .ok (.iload_n 2, 1) := by decide +kernel
theorem dX4_mixShares_1 : decode cX4_mixShares 1 = .ok (.ifCond .gt 4, 3) := by decide +kernel
theorem dX4_mixShares_4 : decode cX4_mixShares 4 = .ok (.return_, 1) := by decide +kernel
theorem dX4_mixShares_5 : decode cX4_mixShares 5 = .ok (.sipush 1000, 3) := by decide +kernel
theorem dX4_mixShares_8 : decode cX4_mixShares 8 = .ok (.istore 4, 2) := by decide +kernel
theorem dX4_mixShares_10 : decode cX4_mixShares 10 = .ok (.iconst 0, 1) := by decide +kernel
theorem dX4_mixShares_11 : decode cX4_mixShares 11 = .ok (.istore 5, 2) := by decide +kernel
theorem dX4_mixShares_13 : decode cX4_mixShares 13 = .ok (.iload 5, 2) := by decide +kernel
theorem dX4_mixShares_15 : decode cX4_mixShares 15 = .ok (.bipush 12, 2) := by decide +kernel
theorem dX4_mixShares_17 : decode cX4_mixShares 17 = .ok (.if_icmp .ge 52, 3) := by decide +kernel
theorem dX4_mixShares_20 : decode cX4_mixShares 20 = .ok (.aload_n 0, 1) := by decide +kernel
theorem dX4_mixShares_21 : decode cX4_mixShares 21 = .ok (.iload_n 1, 1) := by decide +kernel
theorem dX4_mixShares_22 : decode cX4_mixShares 22 = .ok (.iload 5, 2) := by decide +kernel
theorem dX4_mixShares_24 : decode cX4_mixShares 24 = .ok (.invokevirtual 99, 3) := by decide +kernel
theorem dX4_mixShares_27 : decode cX4_mixShares 27 = .ok (.istore 6, 2) := by decide +kernel
theorem dX4_mixShares_29 : decode cX4_mixShares 29 = .ok (.aload_n 0, 1) := by decide +kernel
theorem dX4_mixShares_30 : decode cX4_mixShares 30 = .ok (.getfield 26, 3) := by decide +kernel
theorem dX4_mixShares_33 : decode cX4_mixShares 33 = .ok (.iload_n 1, 1) := by decide +kernel
theorem dX4_mixShares_34 : decode cX4_mixShares 34 = .ok (.iload 5, 2) := by decide +kernel
theorem dX4_mixShares_36 : decode cX4_mixShares 36 = .ok (.iload 6, 2) := by decide +kernel
theorem dX4_mixShares_38 : decode cX4_mixShares 38 = .ok (.iload_n 2, 1) := by decide +kernel
theorem dX4_mixShares_39 : decode cX4_mixShares 39 = .ok (.idiv, 1) := by decide +kernel
theorem dX4_mixShares_40 : decode cX4_mixShares 40 = .ok (.invokevirtual 46, 3) := by decide +kernel
theorem dX4_mixShares_43 : decode cX4_mixShares 43 = .ok (.aload_n 3, 1) := by decide +kernel
theorem dX4_mixShares_44 : decode cX4_mixShares 44 = .ok (.iconst 0, 1) := by decide +kernel
theorem dX4_mixShares_45 : decode cX4_mixShares 45 = .ok (.iload 5, 2) := by decide +kernel
theorem dX4_mixShares_47 : decode cX4_mixShares 47 = .ok (.iload 6, 2) := by decide +kernel
theorem dX4_mixShares_49 : decode cX4_mixShares 49 = .ok (.iload_n 2, 1) := by decide +kernel
theorem dX4_mixShares_50 : decode cX4_mixShares 50 = .ok (.irem, 1) := by decide +kernel
theorem dX4_mixShares_51 : decode cX4_mixShares 51 = .ok (.invokevirtual 46, 3) := by decide +kernel
theorem dX4_mixShares_54 : decode cX4_mixShares 54 = .ok (.iload 4, 2) := by decide +kernel
theorem dX4_mixShares_56 : decode cX4_mixShares 56 = .ok (.iload 6, 2) := by decide +kernel
theorem dX4_mixShares_58 : decode cX4_mixShares 58 = .ok (.iload_n 2, 1) := by decide +kernel
theorem dX4_mixShares_59 : decode cX4_mixShares 59 = .ok (.idiv, 1) := by decide +kernel
theorem dX4_mixShares_60 : decode cX4_mixShares 60 = .ok (.isub, 1) := by decide +kernel
theorem dX4_mixShares_61 : decode cX4_mixShares 61 = .ok (.istore 4, 2) := by decide +kernel
theorem dX4_mixShares_63 : decode cX4_mixShares 63 = .ok (.iinc 5 1, 3) := by decide +kernel
theorem dX4_mixShares_66 : decode cX4_mixShares 66 = .ok (.goto (-53), 3) := by decide +kernel
theorem dX4_mixShares_69 : decode cX4_mixShares 69 = .ok (.iconst 0, 1) := by decide +kernel
theorem dX4_mixShares_70 : decode cX4_mixShares 70 = .ok (.istore 5, 2) := by decide +kernel
theorem dX4_mixShares_72 : decode cX4_mixShares 72 = .ok (.iload 5, 2) := by decide +kernel
theorem dX4_mixShares_74 : decode cX4_mixShares 74 = .ok (.bipush 12, 2) := by decide +kernel
theorem dX4_mixShares_76 : decode cX4_mixShares 76 = .ok (.if_icmp .ge 32, 3) := by decide +kernel
theorem dX4_mixShares_79 : decode cX4_mixShares 79 = .ok (.aload_n 3, 1) := by decide +kernel
theorem dX4_mixShares_80 : decode cX4_mixShares 80 = .ok (.iconst 0, 1) := by decide +kernel
theorem dX4_mixShares_81 : decode cX4_mixShares 81 = .ok (.iload 5, 2) := by decide +kernel
theorem dX4_mixShares_83 : decode cX4_mixShares 83 = .ok (.invokevirtual 102, 3) := by decide +kernel
theorem dX4_mixShares_86 : decode cX4_mixShares 86 = .ok (.iload 4, 2) := by decide +kernel
theorem dX4_mixShares_88 : decode cX4_mixShares 88 = .ok (.if_icmp .ge 14, 3) := by decide +kernel
theorem dX4_mixShares_91 : decode cX4_mixShares 91 = .ok (.aload_n 0, 1) := by decide +kernel
theorem dX4_mixShares_92 : decode cX4_mixShares 92 = .ok (.getfield 26, 3) := by decide +kernel
theorem dX4_mixShares_95 : decode cX4_mixShares 95 = .ok (.iload_n 1, 1) := by decide +kernel
theorem dX4_mixShares_96 : decode cX4_mixShares 96 = .ok (.iload 5, 2) := by decide +kernel
theorem dX4_mixShares_98 : decode cX4_mixShares 98 = .ok (.iconst 1, 1) := by decide +kernel
theorem dX4_mixShares_99 : decode cX4_mixShares 99 = .ok (.invokevirtual 77, 3) := by decide +kernel
theorem dX4_mixShares_102 : decode cX4_mixShares 102 = .ok (.iinc 5 1, 3) := by decide +kernel
theorem dX4_mixShares_105 : decode cX4_mixShares 105 = .ok (.goto (-33), 3) := by decide +kernel
theorem dX4_mixShares_108 : decode cX4_mixShares 108 = .ok (.return_, 1) := by decide +kernel
theorem dX4_partsTimesShares_0 : decode cX4_partsTimesShares 0 = .ok (.iconst 0, 1) := by decide +kernel
theorem dX4_partsTimesShares_1 : decode cX4_partsTimesShares 1 = .ok (.istore_n 3, 1) := by decide +kernel
theorem dX4_partsTimesShares_2 : decode cX4_partsTimesShares 2 = .ok (.iconst 0, 1) := by decide +kernel
theorem dX4_partsTimesShares_3 : decode cX4_partsTimesShares 3 = .ok (.istore 4, 2) := by decide +kernel
theorem dX4_partsTimesShares_5 : decode cX4_partsTimesShares 5 = .ok (.iload 4, 2) := by decide +kernel
theorem dX4_partsTimesShares_7 : decode cX4_partsTimesShares 7 = .ok (.aload_n 0, 1) := by decide +kernel
theorem dX4_partsTimesShares_8 : decode cX4_partsTimesShares 8 = .ok (.iload_n 1, 1) := by decide +kernel
theorem dX4_partsTimesShares_9 : decode cX4_partsTimesShares 9 = .ok (.invokevirtual 105, 3) := by decide +kernel
theorem dX4_partsTimesShares_12 : decode cX4_partsTimesShares 12 = .ok (.if_icmp .ge 41, 3) := by decide +kernel
theorem dX4_partsTimesShares_15 : decode cX4_partsTimesShares 15 = .ok (.iload_n 3, 1) := by decide +kernel
theorem dX4_partsTimesShares_16 : decode cX4_partsTimesShares 16 = .ok (.aload_n 0, 1) := by decide +kernel
theorem dX4_partsTimesShares_17 : decode cX4_partsTimesShares 17 = .ok (.getfield 23, 3) := by decide +kernel
theorem dX4_partsTimesShares_20 : decode cX4_partsTimesShares 20 = .ok (.iload_n 1, 1) := by decide +kernel
theorem dX4_partsTimesShares_21 : decode cX4_partsTimesShares 21 = .ok (.iload 4, 2) := by decide +kernel
theorem dX4_partsTimesShares_23 : decode cX4_partsTimesShares 23 = .ok (.invokevirtual 80, 3) := by decide +kernel
theorem dX4_partsTimesShares_26 : decode cX4_partsTimesShares 26 = .ok (.aload_n 0, 1) := by decide +kernel
theorem dX4_partsTimesShares_27 : decode cX4_partsTimesShares 27 = .ok (.getfield 26, 3) := by decide +kernel
theorem dX4_partsTimesShares_30 : decode cX4_partsTimesShares 30 = .ok (.aload_n 0, 1) := by decide +kernel
theorem dX4_partsTimesShares_31 : decode cX4_partsTimesShares 31 = .ok (.getfield 20, 3) := by decide +kernel
theorem dX4_partsTimesShares_34 : decode cX4_partsTimesShares 34 = .ok (.iload_n 1, 1) := by decide +kernel
theorem dX4_partsTimesShares_35 : decode cX4_partsTimesShares 35 = .ok (.iload 4, 2) := by decide +kernel
theorem dX4_partsTimesShares_37 : decode cX4_partsTimesShares 37 = .ok (.invokevirtual 80, 3) := by decide +kernel
theorem dX4_partsTimesShares_40 : decode cX4_partsTimesShares 40 = .ok (.iload_n 2, 1) := by decide +kernel
theorem dX4_partsTimesShares_41 : decode cX4_partsTimesShares 41 = .ok (.invokevirtual 80, 3) := by decide +kernel
theorem dX4_partsTimesShares_44 : decode cX4_partsTimesShares 44 = .ok (.imul, 1) := by decide +kernel
theorem dX4_partsTimesShares_45 : decode cX4_partsTimesShares 45 = .ok (.iadd, 1) := by decide +kernel
theorem dX4_partsTimesShares_46 : decode cX4_partsTimesShares 46 = .ok (.istore_n 3, 1) := by decide +kernel
theorem dX4_partsTimesShares_47 : decode cX4_partsTimesShares 47 = .ok (.iinc 4 1, 3) := by decide +kernel
theorem dX4_partsTimesShares_50 : decode cX4_partsTimesShares 50 = .ok (.goto (-45), 3) := by decide +kernel
theorem dX4_partsTimesShares_53 : decode cX4_partsTimesShares 53 = .ok (.iload_n 3, 1) := by decide +kernel
theorem dX4_partsTimesShares_54 : decode cX4_partsTimesShares 54 = .ok (.ireturn, 1) := by decide +kernel
theorem dX4_numbersBy_0 : decode cX4_numbersBy 0 = .ok (.iload_n 1, 1) := by decide +kernel
theorem dX4_numbersBy_1 : decode cX4_numbersBy 1 = .ok (.tableswitch 34 1 3 #[27, 30, 32], 27) := by decide +kernel
theorem dX4_numbersBy_28 : decode cX4_numbersBy 28 = .ok (.bipush 100, 2) := by decide +kernel
theorem dX4_numbersBy_30 : decode cX4_numbersBy 30 = .ok (.ireturn, 1) := by decide +kernel
theorem dX4_numbersBy_31 : decode cX4_numbersBy 31 = .ok (.iconst 5, 1) := by decide +kernel
theorem dX4_numbersBy_32 : decode cX4_numbersBy 32 = .ok (.ireturn, 1) := by decide +kernel
theorem dX4_numbersBy_33 : decode cX4_numbersBy 33 = .ok (.iconst 4, 1) := by decide +kernel
theorem dX4_numbersBy_34 : decode cX4_numbersBy 34 = .ok (.ireturn, 1) := by decide +kernel
theorem dX4_numbersBy_35 : decode cX4_numbersBy 35 = .ok (.aload_n 0, 1) := by decide +kernel
theorem dX4_numbersBy_36 : decode cX4_numbersBy 36 = .ok (.getfield 36, 3) := by decide +kernel
theorem dX4_numbersBy_39 : decode cX4_numbersBy 39 = .ok (.ireturn, 1) := by decide +kernel
theorem dX4_shareBy_0 : decode cX4_shareBy 0 = .ok (.iload_n 2, 1) := by decide +kernel
theorem dX4_shareBy_1 : decode cX4_shareBy 1 = .ok (.ifCond .ne 13, 3) := by decide +kernel
theorem dX4_shareBy_4 : decode cX4_shareBy 4 = .ok (.aload_n 0, 1) := by decide +kernel
theorem dX4_shareBy_5 : decode cX4_shareBy 5 = .ok (.getfield 26, 3) := by decide +kernel
theorem dX4_shareBy_8 : decode cX4_shareBy 8 = .ok (.iload_n 1, 1) := by decide +kernel
theorem dX4_shareBy_9 : decode cX4_shareBy 9 = .ok (.iload_n 3, 1) := by decide +kernel
theorem dX4_shareBy_10 : decode cX4_shareBy 10 = .ok (.invokevirtual 80, 3) := by decide +kernel
theorem dX4_shareBy_13 : decode cX4_shareBy 13 = .ok (.ireturn, 1) := by decide +kernel
theorem dX4_shareBy_14 : decode cX4_shareBy 14 = .ok (.iconst 0, 1) := by decide +kernel
theorem dX4_shareBy_15 : decode cX4_shareBy 15 = .ok (.istore 4, 2) := by decide +kernel
theorem dX4_shareBy_17 : decode cX4_shareBy 17 = .ok (.iconst 0, 1) := by decide +kernel
theorem dX4_shareBy_18 : decode cX4_shareBy 18 = .ok (.istore 5, 2) := by decide +kernel
theorem dX4_shareBy_20 : decode cX4_shareBy 20 = .ok (.iload 5, 2) := by decide +kernel
theorem dX4_shareBy_22 : decode cX4_shareBy 22 = .ok (.aload_n 0, 1) := by decide +kernel
theorem dX4_shareBy_23 : decode cX4_shareBy 23 = .ok (.getfield 36, 3) := by decide +kernel
theorem dX4_shareBy_26 : decode cX4_shareBy 26 = .ok (.if_icmp .ge 40, 3) := by decide +kernel
theorem dX4_shareBy_29 : decode cX4_shareBy 29 = .ok (.aload_n 0, 1) := by decide +kernel
theorem dX4_shareBy_30 : decode cX4_shareBy 30 = .ok (.getfield 29, 3) := by decide +kernel
theorem dX4_shareBy_33 : decode cX4_shareBy 33 = .ok (.iload 5, 2) := by decide +kernel
theorem dX4_shareBy_35 : decode cX4_shareBy 35 = .ok (.iload_n 2, 1) := by decide +kernel
theorem dX4_shareBy_36 : decode cX4_shareBy 36 = .ok (.iconst 1, 1) := by decide +kernel
theorem dX4_shareBy_37 : decode cX4_shareBy 37 = .ok (.isub, 1) := by decide +kernel
theorem dX4_shareBy_38 : decode cX4_shareBy 38 = .ok (.invokevirtual 80, 3) := by decide +kernel
theorem dX4_shareBy_41 : decode cX4_shareBy 41 = .ok (.iload_n 3, 1) := by decide +kernel
theorem dX4_shareBy_42 : decode cX4_shareBy 42 = .ok (.if_icmp .ne 18, 3) := by decide +kernel
theorem dX4_shareBy_45 : decode cX4_shareBy 45 = .ok (.iload 4, 2) := by decide +kernel
theorem dX4_shareBy_47 : decode cX4_shareBy 47 = .ok (.aload_n 0, 1) := by decide +kernel
theorem dX4_shareBy_48 : decode cX4_shareBy 48 = .ok (.getfield 26, 3) := by decide +kernel
theorem dX4_shareBy_51 : decode cX4_shareBy 51 = .ok (.iload_n 1, 1) := by decide +kernel
theorem dX4_shareBy_52 : decode cX4_shareBy 52 = .ok (.iload 5, 2) := by decide +kernel
theorem dX4_shareBy_54 : decode cX4_shareBy 54 = .ok (.invokevirtual 80, 3) := by decide +kernel
theorem dX4_shareBy_57 : decode cX4_shareBy 57 = .ok (.iadd, 1) := by decide +kernel
theorem dX4_shareBy_58 : decode cX4_shareBy 58 = .ok (.istore 4, 2) := by decide +kernel
theorem dX4_shareBy_60 : decode cX4_shareBy 60 = .ok (.iinc 5 1, 3) := by decide +kernel
theorem dX4_shareBy_63 : decode cX4_shareBy 63 = .ok (.goto (-43), 3) := by decide +kernel
theorem dX4_shareBy_66 : decode cX4_shareBy 66 = .ok (.iload 4, 2) := by decide +kernel
theorem dX4_shareBy_68 : decode cX4_shareBy 68 = .ok (.ireturn, 1) := by decide +kernel
theorem dX4_harvestsIn_0 : decode cX4_harvestsIn 0 = .ok (.iconst 0, 1) := by decide +kernel
theorem dX4_harvestsIn_1 : decode cX4_harvestsIn 1 = .ok (.istore_n 2, 1) := by decide +kernel
theorem dX4_harvestsIn_2 : decode cX4_harvestsIn 2 = .ok (.iconst 0, 1) := by decide +kernel
theorem dX4_harvestsIn_3 : decode cX4_harvestsIn 3 = .ok (.istore_n 3, 1) := by decide +kernel
theorem dX4_harvestsIn_4 : decode cX4_harvestsIn 4 = .ok (.iload_n 3, 1) := by decide +kernel
theorem dX4_harvestsIn_5 : decode cX4_harvestsIn 5 = .ok (.aload_n 0, 1) := by decide +kernel
theorem dX4_harvestsIn_6 : decode cX4_harvestsIn 6 = .ok (.getfield 36, 3) := by decide +kernel
theorem dX4_harvestsIn_9 : decode cX4_harvestsIn 9 = .ok (.if_icmp .ge 24, 3) := by decide +kernel
theorem dX4_harvestsIn_12 : decode cX4_harvestsIn 12 = .ok (.aload_n 0, 1) := by decide +kernel
theorem dX4_harvestsIn_13 : decode cX4_harvestsIn 13 = .ok (.getfield 26, 3) := by decide +kernel
theorem dX4_harvestsIn_16 : decode cX4_harvestsIn 16 = .ok (.iload_n 1, 1) := by decide +kernel
theorem dX4_harvestsIn_17 : decode cX4_harvestsIn 17 = .ok (.iload_n 3, 1) := by decide +kernel
theorem dX4_harvestsIn_18 : decode cX4_harvestsIn 18 = .ok (.invokevirtual 80, 3) := by decide +kernel
theorem dX4_harvestsIn_21 : decode cX4_harvestsIn 21 = .ok (.ifCond .le 6, 3) := by decide +kernel
theorem dX4_harvestsIn_24 : decode cX4_harvestsIn 24 = .ok (.iinc 2 1, 3) := by decide +kernel
theorem dX4_harvestsIn_27 : decode cX4_harvestsIn 27 = .ok (.iinc 3 1, 3) := by decide +kernel
theorem dX4_harvestsIn_30 : decode cX4_harvestsIn 30 = .ok (.goto (-26), 3) := by decide +kernel
theorem dX4_harvestsIn_33 : decode cX4_harvestsIn 33 = .ok (.iload_n 2, 1) := by decide +kernel
theorem dX4_harvestsIn_34 : decode cX4_harvestsIn 34 = .ok (.ireturn, 1) := by decide +kernel
theorem dX4_vintageSum_0 : decode cX4_vintageSum 0 = .ok (.iconst 0, 1) := by decide +kernel
theorem dX4_vintageSum_1 : decode cX4_vintageSum 1 = .ok (.istore_n 2, 1) := by decide +kernel
theorem dX4_vintageSum_2 : decode cX4_vintageSum 2 = .ok (.iconst 0, 1) := by decide +kernel
theorem dX4_vintageSum_3 : decode cX4_vintageSum 3 = .ok (.istore_n 3, 1) := by decide +kernel
theorem dX4_vintageSum_4 : decode cX4_vintageSum 4 = .ok (.iload_n 3, 1) := by decide +kernel
theorem dX4_vintageSum_5 : decode cX4_vintageSum 5 = .ok (.aload_n 0, 1) := by decide +kernel
theorem dX4_vintageSum_6 : decode cX4_vintageSum 6 = .ok (.getfield 36, 3) := by decide +kernel
theorem dX4_vintageSum_9 : decode cX4_vintageSum 9 = .ok (.if_icmp .ge 31, 3) := by decide +kernel
theorem dX4_vintageSum_12 : decode cX4_vintageSum 12 = .ok (.iload_n 2, 1) := by decide +kernel
theorem dX4_vintageSum_13 : decode cX4_vintageSum 13 = .ok (.aload_n 0, 1) := by decide +kernel
theorem dX4_vintageSum_14 : decode cX4_vintageSum 14 = .ok (.getfield 26, 3) := by decide +kernel
theorem dX4_vintageSum_17 : decode cX4_vintageSum 17 = .ok (.iload_n 1, 1) := by decide +kernel
theorem dX4_vintageSum_18 : decode cX4_vintageSum 18 = .ok (.iload_n 3, 1) := by decide +kernel
theorem dX4_vintageSum_19 : decode cX4_vintageSum 19 = .ok (.invokevirtual 80, 3) := by decide +kernel
theorem dX4_vintageSum_22 : decode cX4_vintageSum 22 = .ok (.aload_n 0, 1) := by decide +kernel
theorem dX4_vintageSum_23 : decode cX4_vintageSum 23 = .ok (.getfield 29, 3) := by decide +kernel
theorem dX4_vintageSum_26 : decode cX4_vintageSum 26 = .ok (.iload_n 3, 1) := by decide +kernel
theorem dX4_vintageSum_27 : decode cX4_vintageSum 27 = .ok (.iconst 0, 1) := by decide +kernel
theorem dX4_vintageSum_28 : decode cX4_vintageSum 28 = .ok (.invokevirtual 80, 3) := by decide +kernel
theorem dX4_vintageSum_31 : decode cX4_vintageSum 31 = .ok (.imul, 1) := by decide +kernel
theorem dX4_vintageSum_32 : decode cX4_vintageSum 32 = .ok (.iadd, 1) := by decide +kernel
theorem dX4_vintageSum_33 : decode cX4_vintageSum 33 = .ok (.istore_n 2, 1) := by decide +kernel
theorem dX4_vintageSum_34 : decode cX4_vintageSum 34 = .ok (.iinc 3 1, 3) := by decide +kernel
theorem dX4_vintageSum_37 : decode cX4_vintageSum 37 = .ok (.goto (-33), 3) := by decide +kernel
theorem dX4_vintageSum_40 : decode cX4_vintageSum 40 = .ok (.iload_n 2, 1) := by decide +kernel
theorem dX4_vintageSum_41 : decode cX4_vintageSum 41 = .ok (.ireturn, 1) := by decide +kernel
theorem dX4_partSetOf_0 : decode cX4_partSetOf 0 = .ok (.iconst 0, 1) := by decide +kernel
theorem dX4_partSetOf_1 : decode cX4_partSetOf 1 = .ok (.istore_n 2, 1) := by decide +kernel
theorem dX4_partSetOf_2 : decode cX4_partSetOf 2 = .ok (.iconst 0, 1) := by decide +kernel
theorem dX4_partSetOf_3 : decode cX4_partSetOf 3 = .ok (.istore_n 3, 1) := by decide +kernel
theorem dX4_partSetOf_4 : decode cX4_partSetOf 4 = .ok (.iload_n 3, 1) := by decide +kernel
theorem dX4_partSetOf_5 : decode cX4_partSetOf 5 = .ok (.aload_n 0, 1) := by decide +kernel
theorem dX4_partSetOf_6 : decode cX4_partSetOf 6 = .ok (.iload_n 1, 1) := by decide +kernel
theorem dX4_partSetOf_7 : decode cX4_partSetOf 7 = .ok (.invokevirtual 105, 3) := by decide +kernel
theorem dX4_partSetOf_10 : decode cX4_partSetOf 10 = .ok (.if_icmp .ge 23, 3) := by decide +kernel
theorem dX4_partSetOf_13 : decode cX4_partSetOf 13 = .ok (.iload_n 2, 1) := by decide +kernel
theorem dX4_partSetOf_14 : decode cX4_partSetOf 14 = .ok (.iconst 1, 1) := by decide +kernel
theorem dX4_partSetOf_15 : decode cX4_partSetOf 15 = .ok (.aload_n 0, 1) := by decide +kernel
theorem dX4_partSetOf_16 : decode cX4_partSetOf 16 = .ok (.getfield 20, 3) := by decide +kernel
theorem dX4_partSetOf_19 : decode cX4_partSetOf 19 = .ok (.iload_n 1, 1) := by decide +kernel
theorem dX4_partSetOf_20 : decode cX4_partSetOf 20 = .ok (.iload_n 3, 1) := by decide +kernel
theorem dX4_partSetOf_21 : decode cX4_partSetOf 21 = .ok (.invokevirtual 80, 3) := by decide +kernel
theorem dX4_partSetOf_24 : decode cX4_partSetOf 24 = .ok (.ishl, 1) := by decide +kernel
theorem dX4_partSetOf_25 : decode cX4_partSetOf 25 = .ok (.ior, 1) := by decide +kernel
theorem dX4_partSetOf_26 : decode cX4_partSetOf 26 = .ok (.istore_n 2, 1) := by decide +kernel
theorem dX4_partSetOf_27 : decode cX4_partSetOf 27 = .ok (.iinc 3 1, 3) := by decide +kernel
theorem dX4_partSetOf_30 : decode cX4_partSetOf 30 = .ok (.goto (-26), 3) := by decide +kernel
theorem dX4_partSetOf_33 : decode cX4_partSetOf 33 = .ok (.iload_n 2, 1) := by decide +kernel
theorem dX4_partSetOf_34 : decode cX4_partSetOf 34 = .ok (.ireturn, 1) := by decide +kernel
theorem dX4_blendsOf_0 : decode cX4_blendsOf 0 = .ok (.iconst 0, 1) := by decide +kernel
theorem dX4_blendsOf_1 : decode cX4_blendsOf 1 = .ok (.istore_n 2, 1) := by decide +kernel
theorem dX4_blendsOf_2 : decode cX4_blendsOf 2 = .ok (.iload_n 1, 1) := by decide +kernel
theorem dX4_blendsOf_3 : decode cX4_blendsOf 3 = .ok (.iconst 1, 1) := by decide +kernel
theorem dX4_blendsOf_4 : decode cX4_blendsOf 4 = .ok (.iadd, 1) := by decide +kernel
theorem dX4_blendsOf_5 : decode cX4_blendsOf 5 = .ok (.istore_n 3, 1) := by decide +kernel
theorem dX4_blendsOf_6 : decode cX4_blendsOf 6 = .ok (.iload_n 3, 1) := by decide +kernel
theorem dX4_blendsOf_7 : decode cX4_blendsOf 7 = .ok (.aload_n 0, 1) := by decide +kernel
theorem dX4_blendsOf_8 : decode cX4_blendsOf 8 = .ok (.getfield 32, 3) := by decide +kernel
theorem dX4_blendsOf_11 : decode cX4_blendsOf 11 = .ok (.if_icmp .ge 27, 3) := by decide +kernel
theorem dX4_blendsOf_14 : decode cX4_blendsOf 14 = .ok (.aload_n 0, 1) := by decide +kernel
theorem dX4_blendsOf_15 : decode cX4_blendsOf 15 = .ok (.iload_n 3, 1) := by decide +kernel
theorem dX4_blendsOf_16 : decode cX4_blendsOf 16 = .ok (.invokevirtual 108, 3) := by decide +kernel
theorem dX4_blendsOf_19 : decode cX4_blendsOf 19 = .ok (.iload_n 1, 1) := by decide +kernel
theorem dX4_blendsOf_20 : decode cX4_blendsOf 20 = .ok (.invokestatic 111, 3) := by decide +kernel
theorem dX4_blendsOf_23 : decode cX4_blendsOf 23 = .ok (.ifCond .eq 9, 3) := by decide +kernel
theorem dX4_blendsOf_26 : decode cX4_blendsOf 26 = .ok (.iload_n 2, 1) := by decide +kernel
theorem dX4_blendsOf_27 : decode cX4_blendsOf 27 = .ok (.iconst 1, 1) := by decide +kernel
theorem dX4_blendsOf_28 : decode cX4_blendsOf 28 = .ok (.iload_n 3, 1) := by decide +kernel
theorem dX4_blendsOf_29 : decode cX4_blendsOf 29 = .ok (.ishl, 1) := by decide +kernel
theorem dX4_blendsOf_30 : decode cX4_blendsOf 30 = .ok (.ior, 1) := by decide +kernel
theorem dX4_blendsOf_31 : decode cX4_blendsOf 31 = .ok (.istore_n 2, 1) := by decide +kernel
theorem dX4_blendsOf_32 : decode cX4_blendsOf 32 = .ok (.iinc 3 1, 3) := by decide +kernel
theorem dX4_blendsOf_35 : decode cX4_blendsOf 35 = .ok (.goto (-29), 3) := by decide +kernel
theorem dX4_blendsOf_38 : decode cX4_blendsOf 38 = .ok (.iload_n 2, 1) := by decide +kernel
theorem dX4_blendsOf_39 : decode cX4_blendsOf 39 = .ok (.ireturn, 1) := by decide +kernel
theorem dX4_allMadeOf_0 : decode cX4_allMadeOf 0 = .ok (.iconst 1, 1) := by decide +kernel
theorem dX4_allMadeOf_1 : decode cX4_allMadeOf 1 = .ok (.iload_n 1, 1) := by decide +kernel
theorem dX4_allMadeOf_2 : decode cX4_allMadeOf 2 = .ok (.ishl, 1) := by decide +kernel
theorem dX4_allMadeOf_3 : decode cX4_allMadeOf 3 = .ok (.istore_n 2, 1) := by decide +kernel
theorem dX4_allMadeOf_4 : decode cX4_allMadeOf 4 = .ok (.iload_n 1, 1) := by decide +kernel
theorem dX4_allMadeOf_5 : decode cX4_allMadeOf 5 = .ok (.istore_n 3, 1) := by decide +kernel
theorem dX4_allMadeOf_6 : decode cX4_allMadeOf 6 = .ok (.iload_n 3, 1) := by decide +kernel
theorem dX4_allMadeOf_7 : decode cX4_allMadeOf 7 = .ok (.aload_n 0, 1) := by decide +kernel
theorem dX4_allMadeOf_8 : decode cX4_allMadeOf 8 = .ok (.getfield 32, 3) := by decide +kernel
theorem dX4_allMadeOf_11 : decode cX4_allMadeOf 11 = .ok (.if_icmp .ge 25, 3) := by decide +kernel
theorem dX4_allMadeOf_14 : decode cX4_allMadeOf 14 = .ok (.iload_n 2, 1) := by decide +kernel
theorem dX4_allMadeOf_15 : decode cX4_allMadeOf 15 = .ok (.iload_n 3, 1) := by decide +kernel
theorem dX4_allMadeOf_16 : decode cX4_allMadeOf 16 = .ok (.invokestatic 111, 3) := by decide +kernel
theorem dX4_allMadeOf_19 : decode cX4_allMadeOf 19 = .ok (.ifCond .eq 11, 3) := by decide +kernel
theorem dX4_allMadeOf_22 : decode cX4_allMadeOf 22 = .ok (.iload_n 2, 1) := by decide +kernel
theorem dX4_allMadeOf_23 : decode cX4_allMadeOf 23 = .ok (.aload_n 0, 1) := by decide +kernel
theorem dX4_allMadeOf_24 : decode cX4_allMadeOf 24 = .ok (.iload_n 3, 1) := by decide +kernel
theorem dX4_allMadeOf_25 : decode cX4_allMadeOf 25 = .ok (.invokevirtual 115, 3) := by decide +kernel
theorem dX4_allMadeOf_28 : decode cX4_allMadeOf 28 = .ok (.ior, 1) := by decide +kernel
theorem dX4_allMadeOf_29 : decode cX4_allMadeOf 29 = .ok (.istore_n 2, 1) := by decide +kernel
theorem dX4_allMadeOf_30 : decode cX4_allMadeOf 30 = .ok (.iinc 3 1, 3) := by decide +kernel
theorem dX4_allMadeOf_33 : decode cX4_allMadeOf 33 = .ok (.goto (-27), 3) := by decide +kernel
theorem dX4_allMadeOf_36 : decode cX4_allMadeOf 36 = .ok (.iload_n 2, 1) := by decide +kernel
theorem dX4_allMadeOf_37 : decode cX4_allMadeOf 37 = .ok (.ireturn, 1) := by decide +kernel
theorem dX4_allThatMake_0 : decode cX4_allThatMake 0 = .ok (.iconst 1, 1) := by decide +kernel
theorem dX4_allThatMake_1 : decode cX4_allThatMake 1 = .ok (.iload_n 1, 1) := by decide +kernel
theorem dX4_allThatMake_2 : decode cX4_allThatMake 2 = .ok (.ishl, 1) := by decide +kernel
theorem dX4_allThatMake_3 : decode cX4_allThatMake 3 = .ok (.istore_n 2, 1) := by decide +kernel
theorem dX4_allThatMake_4 : decode cX4_allThatMake 4 = .ok (.iload_n 1, 1) := by decide +kernel
theorem dX4_allThatMake_5 : decode cX4_allThatMake 5 = .ok (.istore_n 3, 1) := by decide +kernel
theorem dX4_allThatMake_6 : decode cX4_allThatMake 6 = .ok (.iload_n 3, 1) := by decide +kernel
theorem dX4_allThatMake_7 : decode cX4_allThatMake 7 = .ok (.ifCond .lt 25, 3) := by decide +kernel
theorem dX4_allThatMake_10 : decode cX4_allThatMake 10 = .ok (.iload_n 2, 1) := by decide +kernel
theorem dX4_allThatMake_11 : decode cX4_allThatMake 11 = .ok (.iload_n 3, 1) := by decide +kernel
theorem dX4_allThatMake_12 : decode cX4_allThatMake 12 = .ok (.invokestatic 111, 3) := by decide +kernel
theorem dX4_allThatMake_15 : decode cX4_allThatMake 15 = .ok (.ifCond .eq 11, 3) := by decide +kernel
theorem dX4_allThatMake_18 : decode cX4_allThatMake 18 = .ok (.iload_n 2, 1) := by decide +kernel
theorem dX4_allThatMake_19 : decode cX4_allThatMake 19 = .ok (.aload_n 0, 1) := by decide +kernel
theorem dX4_allThatMake_20 : decode cX4_allThatMake 20 = .ok (.iload_n 3, 1) := by decide +kernel
theorem dX4_allThatMake_21 : decode cX4_allThatMake 21 = .ok (.invokevirtual 108, 3) := by decide +kernel
theorem dX4_allThatMake_24 : decode cX4_allThatMake 24 = .ok (.ior, 1) := by decide +kernel
theorem dX4_allThatMake_25 : decode cX4_allThatMake 25 = .ok (.istore_n 2, 1) := by decide +kernel
theorem dX4_allThatMake_26 : decode cX4_allThatMake 26 = .ok (.iinc 3 (-1), 3) := by decide +kernel
theorem dX4_allThatMake_29 : decode cX4_allThatMake 29 = .ok (.goto (-23), 3) := by decide +kernel
theorem dX4_allThatMake_32 : decode cX4_allThatMake 32 = .ok (.iload_n 2, 1) := by decide +kernel
theorem dX4_allThatMake_33 : decode cX4_allThatMake 33 = .ok (.ireturn, 1) := by decide +kernel
theorem dX4_waysInto_0 : decode cX4_waysInto 0 = .ok (.iconst 0, 1) := by decide +kernel
theorem dX4_waysInto_1 : decode cX4_waysInto 1 = .ok (.istore 4, 2) := by decide +kernel
theorem dX4_waysInto_3 : decode cX4_waysInto 3 = .ok (.iload 4, 2) := by decide +kernel
theorem dX4_waysInto_5 : decode cX4_waysInto 5 = .ok (.iload_n 2, 1) := by decide +kernel
theorem dX4_waysInto_6 : decode cX4_waysInto 6 = .ok (.if_icmp .gt 78, 3) := by decide +kernel
theorem dX4_waysInto_9 : decode cX4_waysInto 9 = .ok (.iload 4, 2) := by decide +kernel
theorem dX4_waysInto_11 : decode cX4_waysInto 11 = .ok (.iload_n 1, 1) := by decide +kernel
theorem dX4_waysInto_12 : decode cX4_waysInto 12 = .ok (.if_icmp .ne 7, 3) := by decide +kernel
theorem dX4_waysInto_15 : decode cX4_waysInto 15 = .ok (.iconst 1, 1) := by decide +kernel
theorem dX4_waysInto_16 : decode cX4_waysInto 16 = .ok (.goto 4, 3) := by decide +kernel
theorem dX4_waysInto_19 : decode cX4_waysInto 19 = .ok (.iconst 0, 1) := by decide +kernel
theorem dX4_waysInto_20 : decode cX4_waysInto 20 = .ok (.istore 5, 2) := by decide +kernel
theorem dX4_waysInto_22 : decode cX4_waysInto 22 = .ok (.iconst 0, 1) := by decide +kernel
theorem dX4_waysInto_23 : decode cX4_waysInto 23 = .ok (.istore 6, 2) := by decide +kernel
theorem dX4_waysInto_25 : decode cX4_waysInto 25 = .ok (.iload 4, 2) := by decide +kernel
theorem dX4_waysInto_27 : decode cX4_waysInto 27 = .ok (.iload_n 1, 1) := by decide +kernel
theorem dX4_waysInto_28 : decode cX4_waysInto 28 = .ok (.if_icmp .le 41, 3) := by decide +kernel
theorem dX4_waysInto_31 : decode cX4_waysInto 31 = .ok (.iload 6, 2) := by decide +kernel
theorem dX4_waysInto_33 : decode cX4_waysInto 33 = .ok (.aload_n 0, 1) := by decide +kernel
theorem dX4_waysInto_34 : decode cX4_waysInto 34 = .ok (.iload 4, 2) := by decide +kernel
theorem dX4_waysInto_36 : decode cX4_waysInto 36 = .ok (.invokevirtual 105, 3) := by decide +kernel
theorem dX4_waysInto_39 : decode cX4_waysInto 39 = .ok (.if_icmp .ge 30, 3) := by decide +kernel
theorem dX4_waysInto_42 : decode cX4_waysInto 42 = .ok (.iload 5, 2) := by decide +kernel
theorem dX4_waysInto_44 : decode cX4_waysInto 44 = .ok (.aload_n 3, 1) := by decide +kernel
theorem dX4_waysInto_45 : decode cX4_waysInto 45 = .ok (.iconst 0, 1) := by decide +kernel
theorem dX4_waysInto_46 : decode cX4_waysInto 46 = .ok (.aload_n 0, 1) := by decide +kernel
theorem dX4_waysInto_47 : decode cX4_waysInto 47 = .ok (.getfield 20, 3) := by decide +kernel
theorem dX4_waysInto_50 : decode cX4_waysInto 50 = .ok (.iload 4, 2) := by decide +kernel
theorem dX4_waysInto_52 : decode cX4_waysInto 52 = .ok (.iload 6, 2) := by decide +kernel
theorem dX4_waysInto_54 : decode cX4_waysInto 54 = .ok (.invokevirtual 80, 3) := by decide +kernel
theorem dX4_waysInto_57 : decode cX4_waysInto 57 = .ok (.invokevirtual 80, 3) := by decide +kernel
theorem dX4_waysInto_60 : decode cX4_waysInto 60 = .ok (.iadd, 1) := by decide +kernel
theorem dX4_waysInto_61 : decode cX4_waysInto 61 = .ok (.istore 5, 2) := by decide +kernel
theorem dX4_waysInto_63 : decode cX4_waysInto 63 = .ok (.iinc 6 1, 3) := by decide +kernel
theorem dX4_waysInto_66 : decode cX4_waysInto 66 = .ok (.goto (-41), 3) := by decide +kernel
theorem dX4_waysInto_69 : decode cX4_waysInto 69 = .ok (.aload_n 3, 1) := by decide +kernel
theorem dX4_waysInto_70 : decode cX4_waysInto 70 = .ok (.iconst 0, 1) := by decide +kernel
theorem dX4_waysInto_71 : decode cX4_waysInto 71 = .ok (.iload 4, 2) := by decide +kernel
theorem dX4_waysInto_73 : decode cX4_waysInto 73 = .ok (.iload 5, 2) := by decide +kernel
theorem dX4_waysInto_75 : decode cX4_waysInto 75 = .ok (.invokevirtual 46, 3) := by decide +kernel
theorem dX4_waysInto_78 : decode cX4_waysInto 78 = .ok (.iinc 4 1, 3) := by decide +kernel
theorem dX4_waysInto_81 : decode cX4_waysInto 81 = .ok (.goto (-78), 3) := by decide +kernel
theorem dX4_waysInto_84 : decode cX4_waysInto 84 = .ok (.aload_n 3, 1) := by decide +kernel
theorem dX4_waysInto_85 : decode cX4_waysInto 85 = .ok (.iconst 0, 1) := by decide +kernel
theorem dX4_waysInto_86 : decode cX4_waysInto 86 = .ok (.iload_n 2, 1) := by decide +kernel
theorem dX4_waysInto_87 : decode cX4_waysInto 87 = .ok (.invokevirtual 80, 3) := by decide +kernel
theorem dX4_waysInto_90 : decode cX4_waysInto 90 = .ok (.ireturn, 1) := by decide +kernel
theorem dX4_harvestedQuarters_0 : decode cX4_harvestedQuarters 0 = .ok (.iconst 0, 1) := by decide +kernel
theorem dX4_harvestedQuarters_1 : decode cX4_harvestedQuarters 1 = .ok (.istore_n 1, 1) := by decide +kernel
theorem dX4_harvestedQuarters_2 : decode cX4_harvestedQuarters 2 = .ok (.iconst 0, 1) := by decide +kernel
theorem dX4_harvestedQuarters_3 : decode cX4_harvestedQuarters 3 = .ok (.istore_n 2, 1) := by decide +kernel
theorem dX4_harvestedQuarters_4 : decode cX4_harvestedQuarters 4 = .ok (.iload_n 2, 1) := by decide +kernel
theorem dX4_harvestedQuarters_5 : decode cX4_harvestedQuarters 5 = .ok (.aload_n 0, 1) := by decide +kernel
theorem dX4_harvestedQuarters_6 : decode cX4_harvestedQuarters 6 = .ok (.getfield 32, 3) := by decide +kernel
theorem dX4_harvestedQuarters_9 : decode cX4_harvestedQuarters 9 = .ok (.if_icmp .ge 34, 3) := by decide +kernel
theorem dX4_harvestedQuarters_12 : decode cX4_harvestedQuarters 12 = .ok (.aload_n 0, 1) := by decide +kernel
theorem dX4_harvestedQuarters_13 : decode cX4_harvestedQuarters 13 = .ok (.getfield 14, 3) := by decide +kernel
theorem dX4_harvestedQuarters_16 : decode cX4_harvestedQuarters 16 = .ok (.iload_n 2, 1) := by decide +kernel
theorem dX4_harvestedQuarters_17 : decode cX4_harvestedQuarters 17 = .ok (.iconst 4, 1) := by decide +kernel
theorem dX4_harvestedQuarters_18 : decode cX4_harvestedQuarters 18 = .ok (.invokevirtual 80, 3) := by decide +kernel
theorem dX4_harvestedQuarters_21 : decode cX4_harvestedQuarters 21 = .ok (.iconst (-1), 1) := by decide +kernel
theorem dX4_harvestedQuarters_22 : decode cX4_harvestedQuarters 22 = .ok (.if_icmp .eq 15, 3) := by decide +kernel
theorem dX4_harvestedQuarters_25 : decode cX4_harvestedQuarters 25 = .ok (.iload_n 1, 1) := by decide +kernel
theorem dX4_harvestedQuarters_26 : decode cX4_harvestedQuarters 26 = .ok (.aload_n 0, 1) := by decide +kernel
theorem dX4_harvestedQuarters_27 : decode cX4_harvestedQuarters 27 = .ok (.getfield 14, 3) := by decide +kernel
theorem dX4_harvestedQuarters_30 : decode cX4_harvestedQuarters 30 = .ok (.iload_n 2, 1) := by decide +kernel
theorem dX4_harvestedQuarters_31 : decode cX4_harvestedQuarters 31 = .ok (.iconst 0, 1) := by decide +kernel
theorem dX4_harvestedQuarters_32 : decode cX4_harvestedQuarters 32 = .ok (.invokevirtual 80, 3) := by decide +kernel
theorem dX4_harvestedQuarters_35 : decode cX4_harvestedQuarters 35 = .ok (.iadd, 1) := by decide +kernel
theorem dX4_harvestedQuarters_36 : decode cX4_harvestedQuarters 36 = .ok (.istore_n 1, 1) := by decide +kernel
theorem dX4_harvestedQuarters_37 : decode cX4_harvestedQuarters 37 = .ok (.iinc 2 1, 3) := by decide +kernel
theorem dX4_harvestedQuarters_40 : decode cX4_harvestedQuarters 40 = .ok (.goto (-36), 3) := by decide +kernel
theorem dX4_harvestedQuarters_43 : decode cX4_harvestedQuarters 43 = .ok (.iload_n 1, 1) := by decide +kernel
theorem dX4_harvestedQuarters_44 : decode cX4_harvestedQuarters 44 = .ok (.ireturn, 1) := by decide +kernel
theorem dX4_leftInAll_0 : decode cX4_leftInAll 0 = .ok (.aload_n 0, 1) := by decide +kernel
theorem dX4_leftInAll_1 : decode cX4_leftInAll 1 = .ok (.getfield 14, 3) := by decide +kernel
theorem dX4_leftInAll_4 : decode cX4_leftInAll 4 = .ok (.iconst 1, 1) := by decide +kernel
theorem dX4_leftInAll_5 : decode cX4_leftInAll 5 = .ok (.invokevirtual 118, 3) := by decide +kernel
theorem dX4_leftInAll_8 : decode cX4_leftInAll 8 = .ok (.ireturn, 1) := by decide +kernel
theorem dX5_init_0 : decode cX5_init 0 = .ok (.aload_n 0, 1) := by decide +kernel
theorem dX5_init_1 : decode cX5_init 1 = .ok (.invokespecial 3, 3) := by decide +kernel
theorem dX5_init_4 : decode cX5_init 4 = .ok (.aload_n 0, 1) := by decide +kernel
theorem dX5_init_5 : decode cX5_init 5 = .ok (.new 9, 3) := by decide +kernel
theorem dX5_init_8 : decode cX5_init 8 = .ok (.dup, 1) := by decide +kernel
theorem dX5_init_9 : decode cX5_init 9 = .ok (.invokespecial 11, 3) := by decide +kernel
theorem dX5_init_12 : decode cX5_init 12 = .ok (.putfield 12, 3) := by decide +kernel
theorem dX5_init_15 : decode cX5_init 15 = .ok (.aload_n 0, 1) := by decide +kernel
theorem dX5_init_16 : decode cX5_init 16 = .ok (.new 18, 3) := by decide +kernel
theorem dX5_init_19 : decode cX5_init 19 = .ok (.dup, 1) := by decide +kernel
theorem dX5_init_20 : decode cX5_init 20 = .ok (.invokespecial 20, 3) := by decide +kernel
theorem dX5_init_23 : decode cX5_init 23 = .ok (.putfield 21, 3) := by decide +kernel
theorem dX5_init_26 : decode cX5_init 26 = .ok (.aload_n 0, 1) := by decide +kernel
theorem dX5_init_27 : decode cX5_init 27 = .ok (.new 25, 3) := by decide +kernel
theorem dX5_init_30 : decode cX5_init 30 = .ok (.dup, 1) := by decide +kernel
theorem dX5_init_31 : decode cX5_init 31 = .ok (.invokespecial 27, 3) := by decide +kernel
theorem dX5_init_34 : decode cX5_init 34 = .ok (.putfield 28, 3) := by decide +kernel
theorem dX5_init_37 : decode cX5_init 37 = .ok (.aload_n 0, 1) := by decide +kernel
theorem dX5_init_38 : decode cX5_init 38 = .ok (.new 32, 3) := by decide +kernel
theorem dX5_init_41 : decode cX5_init 41 = .ok (.dup, 1) := by decide +kernel
theorem dX5_init_42 : decode cX5_init 42 = .ok (.iconst 1, 1) := by decide +kernel
theorem dX5_init_43 : decode cX5_init 43 = .ok (.iconst 3, 1) := by decide +kernel
theorem dX5_init_44 : decode cX5_init 44 = .ok (.invokespecial 34, 3) := by decide +kernel
theorem dX5_init_47 : decode cX5_init 47 = .ok (.putfield 37, 3) := by decide +kernel
theorem dX5_init_50 : decode cX5_init 50 = .ok (.aload_n 0, 1) := by decide +kernel
theorem dX5_init_51 : decode cX5_init 51 = .ok (.getfield 37, 3) := by decide +kernel
theorem dX5_init_54 : decode cX5_init 54 = .ok (.iconst 0, 1) := by decide +kernel
theorem dX5_init_55 : decode cX5_init 55 = .ok (.iconst 0, 1) := by decide +kernel
theorem dX5_init_56 : decode cX5_init 56 = .ok (.sipush 850, 3) := by decide +kernel
theorem dX5_init_59 : decode cX5_init 59 = .ok (.invokevirtual 41, 3) := by decide +kernel
theorem dX5_init_62 : decode cX5_init 62 = .ok (.aload_n 0, 1) := by decide +kernel
theorem dX5_init_63 : decode cX5_init 63 = .ok (.getfield 37, 3) := by decide +kernel
theorem dX5_init_66 : decode cX5_init 66 = .ok (.iconst 0, 1) := by decide +kernel
theorem dX5_init_67 : decode cX5_init 67 = .ok (.iconst 1, 1) := by decide +kernel
theorem dX5_init_68 : decode cX5_init 68 = .ok (.sipush 850, 3) := by decide +kernel
theorem dX5_init_71 : decode cX5_init 71 = .ok (.invokevirtual 41, 3) := by decide +kernel
theorem dX5_init_74 : decode cX5_init 74 = .ok (.aload_n 0, 1) := by decide +kernel
theorem dX5_init_75 : decode cX5_init 75 = .ok (.getfield 37, 3) := by decide +kernel
theorem dX5_init_78 : decode cX5_init 78 = .ok (.iconst 0, 1) := by decide +kernel
theorem dX5_init_79 : decode cX5_init 79 = .ok (.iconst 2, 1) := by decide +kernel
theorem dX5_init_80 : decode cX5_init 80 = .ok (.sipush 750, 3) := by decide +kernel
theorem dX5_init_83 : decode cX5_init 83 = .ok (.invokevirtual 41, 3) := by decide +kernel
theorem dX5_init_86 : decode cX5_init 86 = .ok (.return_, 1) := by decide +kernel
theorem dX5_copyFrom_0 : decode cX5_copyFrom 0 = .ok (.aload_n 0, 1) := by decide +kernel
theorem dX5_copyFrom_1 : decode cX5_copyFrom 1 = .ok (.getfield 12, 3) := by decide +kernel
theorem dX5_copyFrom_4 : decode cX5_copyFrom 4 = .ok (.aload_n 1, 1) := by decide +kernel
theorem dX5_copyFrom_5 : decode cX5_copyFrom 5 = .ok (.getfield 12, 3) := by decide +kernel
theorem dX5_copyFrom_8 : decode cX5_copyFrom 8 = .ok (.invokevirtual 45, 3) := by decide +kernel
theorem dX5_copyFrom_11 : decode cX5_copyFrom 11 = .ok (.aload_n 0, 1) := by decide +kernel
theorem dX5_copyFrom_12 : decode cX5_copyFrom 12 = .ok (.getfield 21, 3) := by decide +kernel
theorem dX5_copyFrom_15 : decode cX5_copyFrom 15 = .ok (.aload_n 1, 1) := by decide +kernel
theorem dX5_copyFrom_16 : decode cX5_copyFrom 16 = .ok (.getfield 21, 3) := by decide +kernel
theorem dX5_copyFrom_19 : decode cX5_copyFrom 19 = .ok (.invokevirtual 49, 3) := by decide +kernel
theorem dX5_copyFrom_22 : decode cX5_copyFrom 22 = .ok (.aload_n 0, 1) := by decide +kernel
theorem dX5_copyFrom_23 : decode cX5_copyFrom 23 = .ok (.getfield 28, 3) := by decide +kernel
theorem dX5_copyFrom_26 : decode cX5_copyFrom 26 = .ok (.aload_n 1, 1) := by decide +kernel
theorem dX5_copyFrom_27 : decode cX5_copyFrom 27 = .ok (.getfield 28, 3) := by decide +kernel
theorem dX5_copyFrom_30 : decode cX5_copyFrom 30 = .ok (.invokevirtual 52, 3) := by decide +kernel
theorem dX5_copyFrom_33 : decode cX5_copyFrom 33 = .ok (.aload_n 0, 1) := by decide +kernel
theorem dX5_copyFrom_34 : decode cX5_copyFrom 34 = .ok (.getfield 37, 3) := by decide +kernel
theorem dX5_copyFrom_37 : decode cX5_copyFrom 37 = .ok (.aload_n 1, 1) := by decide +kernel
theorem dX5_copyFrom_38 : decode cX5_copyFrom 38 = .ok (.getfield 37, 3) := by decide +kernel
theorem dX5_copyFrom_41 : decode cX5_copyFrom 41 = .ok (.invokevirtual 55, 3) := by decide +kernel
theorem dX5_copyFrom_44 : decode cX5_copyFrom 44 = .ok (.return_, 1) := by decide +kernel
theorem dX5_bottlingRefusal_0 : decode cX5_bottlingRefusal 0 = .ok (.aload_n 0, 1) := by decide +kernel
theorem dX5_bottlingRefusal_1 : decode cX5_bottlingRefusal 1 = .ok (.getfield 12, 3) := by decide +kernel
theorem dX5_bottlingRefusal_4 : decode cX5_bottlingRefusal 4 = .ok (.iload_n 1, 1) := by decide +kernel
theorem dX5_bottlingRefusal_5 : decode cX5_bottlingRefusal 5 = .ok (.invokevirtual 58, 3) := by decide +kernel
theorem dX5_bottlingRefusal_8 : decode cX5_bottlingRefusal 8 = .ok (.iload_n 2, 1) := by decide +kernel
theorem dX5_bottlingRefusal_9 : decode cX5_bottlingRefusal 9 = .ok (.iconst 3, 1) := by decide +kernel
theorem dX5_bottlingRefusal_10 : decode cX5_bottlingRefusal 10 = .ok (.imul, 1) := by decide +kernel
theorem dX5_bottlingRefusal_11 : decode cX5_bottlingRefusal 11 = .ok (.if_icmp .ge 5, 3) := by decide +kernel
theorem dX5_bottlingRefusal_14 : decode cX5_bottlingRefusal 14 = .ok (.iconst 5, 1) := by decide +kernel
theorem dX5_bottlingRefusal_15 : decode cX5_bottlingRefusal 15 = .ok (.ireturn, 1) := by decide +kernel
theorem dX5_bottlingRefusal_16 : decode cX5_bottlingRefusal 16 = .ok (.aload_n 0, 1) := by decide +kernel
theorem dX5_bottlingRefusal_17 : decode cX5_bottlingRefusal 17 = .ok (.iload_n 1, 1) := by decide +kernel
theorem dX5_bottlingRefusal_18 : decode cX5_bottlingRefusal 18 = .ok (.iload_n 3, 1) := by decide +kernel
theorem dX5_bottlingRefusal_19 : decode cX5_bottlingRefusal 19 = .ok (.iload 4, 2) := by decide +kernel
theorem dX5_bottlingRefusal_21 : decode cX5_bottlingRefusal 21 = .ok (.iload 5, 2) := by decide +kernel
theorem dX5_bottlingRefusal_23 : decode cX5_bottlingRefusal 23 = .ok (.iload 6, 2) := by decide +kernel
theorem dX5_bottlingRefusal_25 : decode cX5_bottlingRefusal 25 = .ok (.invokevirtual 62, 3) := by decide +kernel
theorem dX5_bottlingRefusal_28 : decode cX5_bottlingRefusal 28 = .ok (.istore 7, 2) := by decide +kernel
theorem dX5_bottlingRefusal_30 : decode cX5_bottlingRefusal 30 = .ok (.iload 7, 2) := by decide +kernel
theorem dX5_bottlingRefusal_32 : decode cX5_bottlingRefusal 32 = .ok (.ifCond .eq 6, 3) := by decide +kernel
theorem dX5_bottlingRefusal_35 : decode cX5_bottlingRefusal 35 = .ok (.iload 7, 2) := by decide +kernel
theorem dX5_bottlingRefusal_37 : decode cX5_bottlingRefusal 37 = .ok (.ireturn, 1) := by decide +kernel
theorem dX5_bottlingRefusal_38 : decode cX5_bottlingRefusal 38 = .ok (.aload_n 0, 1) := by decide +kernel
theorem dX5_bottlingRefusal_39 : decode cX5_bottlingRefusal 39 = .ok (.getfield 21, 3) := by decide +kernel
theorem dX5_bottlingRefusal_42 : decode cX5_bottlingRefusal 42 = .ok (.getfield 66, 3) := by decide +kernel
theorem dX5_bottlingRefusal_45 : decode cX5_bottlingRefusal 45 = .ok (.bipush 16, 2) := by decide +kernel
theorem dX5_bottlingRefusal_47 : decode cX5_bottlingRefusal 47 = .ok (.if_icmp .lt 8, 3) := by decide +kernel
theorem dX5_bottlingRefusal_50 : decode cX5_bottlingRefusal 50 = .ok (.bipush 9, 2) := by decide +kernel
theorem dX5_bottlingRefusal_52 : decode cX5_bottlingRefusal 52 = .ok (.goto 4, 3) := by decide +kernel
theorem dX5_bottlingRefusal_55 : decode cX5_bottlingRefusal 55 = .ok (.iconst 0, 1) := by decide +kernel
theorem dX5_bottlingRefusal_56 : decode cX5_bottlingRefusal 56 = .ok (.ireturn, 1) := by decide +kernel
theorem dX5_labelRefusal_0 : decode cX5_labelRefusal 0 = .ok (.aload_n 0, 1) := by decide +kernel
theorem dX5_labelRefusal_1 : decode cX5_labelRefusal 1 = .ok (.iload_n 1, 1) := by decide +kernel
theorem dX5_labelRefusal_2 : decode cX5_labelRefusal 2 = .ok (.iconst 1, 1) := by decide +kernel
theorem dX5_labelRefusal_3 : decode cX5_labelRefusal 3 = .ok (.iload_n 2, 1) := by decide +kernel
theorem dX5_labelRefusal_4 : decode cX5_labelRefusal 4 = .ok (.invokevirtual 70, 3) := by decide +kernel
theorem dX5_labelRefusal_7 : decode cX5_labelRefusal 7 = .ok (.ifCond .ne 6, 3) := by decide +kernel
theorem dX5_labelRefusal_10 : decode cX5_labelRefusal 10 = .ok (.bipush 6, 2) := by decide +kernel
theorem dX5_labelRefusal_12 : decode cX5_labelRefusal 12 = .ok (.ireturn, 1) := by decide +kernel
theorem dX5_labelRefusal_13 : decode cX5_labelRefusal 13 = .ok (.iload 4, 2) := by decide +kernel
theorem dX5_labelRefusal_15 : decode cX5_labelRefusal 15 = .ok (.iconst (-1), 1) := by decide +kernel
theorem dX5_labelRefusal_16 : decode cX5_labelRefusal 16 = .ok (.if_icmp .ne 16, 3) := by decide +kernel
theorem dX5_labelRefusal_19 : decode cX5_labelRefusal 19 = .ok (.aload_n 0, 1) := by decide +kernel
theorem dX5_labelRefusal_20 : decode cX5_labelRefusal 20 = .ok (.iload_n 1, 1) := by decide +kernel
theorem dX5_labelRefusal_21 : decode cX5_labelRefusal 21 = .ok (.iconst 2, 1) := by decide +kernel
theorem dX5_labelRefusal_22 : decode cX5_labelRefusal 22 = .ok (.iload_n 3, 1) := by decide +kernel
theorem dX5_labelRefusal_23 : decode cX5_labelRefusal 23 = .ok (.invokevirtual 70, 3) := by decide +kernel
theorem dX5_labelRefusal_26 : decode cX5_labelRefusal 26 = .ok (.ifCond .ne 20, 3) := by decide +kernel
theorem dX5_labelRefusal_29 : decode cX5_labelRefusal 29 = .ok (.goto 14, 3) := by decide +kernel
theorem dX5_labelRefusal_32 : decode cX5_labelRefusal 32 = .ok (.aload_n 0, 1) := by decide +kernel
theorem dX5_labelRefusal_33 : decode cX5_labelRefusal 33 = .ok (.iload_n 1, 1) := by decide +kernel
theorem dX5_labelRefusal_34 : decode cX5_labelRefusal 34 = .ok (.iload_n 3, 1) := by decide +kernel
theorem dX5_labelRefusal_35 : decode cX5_labelRefusal 35 = .ok (.iload 4, 2) := by decide +kernel
theorem dX5_labelRefusal_37 : decode cX5_labelRefusal 37 = .ok (.invokevirtual 74, 3) := by decide +kernel
theorem dX5_labelRefusal_40 : decode cX5_labelRefusal 40 = .ok (.ifCond .ne 6, 3) := by decide +kernel
theorem dX5_labelRefusal_43 : decode cX5_labelRefusal 43 = .ok (.bipush 7, 2) := by decide +kernel
theorem dX5_labelRefusal_45 : decode cX5_labelRefusal 45 = .ok (.ireturn, 1) := by decide +kernel
theorem dX5_labelRefusal_46 : decode cX5_labelRefusal 46 = .ok (.aload_n 0, 1) := by decide +kernel
theorem dX5_labelRefusal_47 : decode cX5_labelRefusal 47 = .ok (.iload_n 1, 1) := by decide +kernel
theorem dX5_labelRefusal_48 : decode cX5_labelRefusal 48 = .ok (.iconst 3, 1) := by decide +kernel
theorem dX5_labelRefusal_49 : decode cX5_labelRefusal 49 = .ok (.iload 5, 2) := by decide +kernel
theorem dX5_labelRefusal_51 : decode cX5_labelRefusal 51 = .ok (.invokevirtual 70, 3) := by decide +kernel
theorem dX5_labelRefusal_54 : decode cX5_labelRefusal 54 = .ok (.ifCond .eq 7, 3) := by decide +kernel
theorem dX5_labelRefusal_57 : decode cX5_labelRefusal 57 = .ok (.iconst 0, 1) := by decide +kernel
theorem dX5_labelRefusal_58 : decode cX5_labelRefusal 58 = .ok (.goto 5, 3) := by decide +kernel
theorem dX5_labelRefusal_61 : decode cX5_labelRefusal 61 = .ok (.bipush 8, 2) := by decide +kernel
theorem dX5_labelRefusal_63 : decode cX5_labelRefusal 63 = .ok (.ireturn, 1) := by decide +kernel
theorem dX5_isAllowed_0 : decode cX5_isAllowed 0 = .ok (.iload_n 3, 1) := by decide +kernel
theorem dX5_isAllowed_1 : decode cX5_isAllowed 1 = .ok (.iconst (-1), 1) := by decide +kernel
theorem dX5_isAllowed_2 : decode cX5_isAllowed 2 = .ok (.if_icmp .eq 27, 3) := by decide +kernel
theorem dX5_isAllowed_5 : decode cX5_isAllowed 5 = .ok (.aload_n 0, 1) := by decide +kernel
theorem dX5_isAllowed_6 : decode cX5_isAllowed 6 = .ok (.getfield 12, 3) := by decide +kernel
theorem dX5_isAllowed_9 : decode cX5_isAllowed 9 = .ok (.iload_n 1, 1) := by decide +kernel
theorem dX5_isAllowed_10 : decode cX5_isAllowed 10 = .ok (.iload_n 2, 1) := by decide +kernel
theorem dX5_isAllowed_11 : decode cX5_isAllowed 11 = .ok (.iload_n 3, 1) := by decide +kernel
theorem dX5_isAllowed_12 : decode cX5_isAllowed 12 = .ok (.invokevirtual 77, 3) := by decide +kernel
theorem dX5_isAllowed_15 : decode cX5_isAllowed 15 = .ok (.aload_n 0, 1) := by decide +kernel
theorem dX5_isAllowed_16 : decode cX5_isAllowed 16 = .ok (.getfield 37, 3) := by decide +kernel
theorem dX5_isAllowed_19 : decode cX5_isAllowed 19 = .ok (.iconst 0, 1) := by decide +kernel
theorem dX5_isAllowed_20 : decode cX5_isAllowed 20 = .ok (.iload_n 2, 1) := by decide +kernel
theorem dX5_isAllowed_21 : decode cX5_isAllowed 21 = .ok (.iconst 1, 1) := by decide +kernel
theorem dX5_isAllowed_22 : decode cX5_isAllowed 22 = .ok (.isub, 1) := by decide +kernel
theorem dX5_isAllowed_23 : decode cX5_isAllowed 23 = .ok (.invokevirtual 81, 3) := by decide +kernel
theorem dX5_isAllowed_26 : decode cX5_isAllowed 26 = .ok (.if_icmp .lt 7, 3) := by decide +kernel
theorem dX5_isAllowed_29 : decode cX5_isAllowed 29 = .ok (.iconst 1, 1) := by decide +kernel
theorem dX5_isAllowed_30 : decode cX5_isAllowed 30 = .ok (.goto 4, 3) := by decide +kernel
theorem dX5_isAllowed_33 : decode cX5_isAllowed 33 = .ok (.iconst 0, 1) := by decide +kernel
theorem dX5_isAllowed_34 : decode cX5_isAllowed 34 = .ok (.ireturn, 1) := by decide +kernel
theorem dX5_areAllowed_0 : decode cX5_areAllowed 0 = .ok (.aload_n 0, 1) := by decide +kernel
theorem dX5_areAllowed_1 : decode cX5_areAllowed 1 = .ok (.getfield 12, 3) := by decide +kernel
theorem dX5_areAllowed_4 : decode cX5_areAllowed 4 = .ok (.iload_n 1, 1) := by decide +kernel
theorem dX5_areAllowed_5 : decode cX5_areAllowed 5 = .ok (.iconst 2, 1) := by decide +kernel
theorem dX5_areAllowed_6 : decode cX5_areAllowed 6 = .ok (.iload_n 2, 1) := by decide +kernel
theorem dX5_areAllowed_7 : decode cX5_areAllowed 7 = .ok (.invokevirtual 77, 3) := by decide +kernel
theorem dX5_areAllowed_10 : decode cX5_areAllowed 10 = .ok (.istore 4, 2) := by decide +kernel
theorem dX5_areAllowed_12 : decode cX5_areAllowed 12 = .ok (.aload_n 0, 1) := by decide +kernel
theorem dX5_areAllowed_13 : decode cX5_areAllowed 13 = .ok (.getfield 12, 3) := by decide +kernel
theorem dX5_areAllowed_16 : decode cX5_areAllowed 16 = .ok (.iload_n 1, 1) := by decide +kernel
theorem dX5_areAllowed_17 : decode cX5_areAllowed 17 = .ok (.iconst 2, 1) := by decide +kernel
theorem dX5_areAllowed_18 : decode cX5_areAllowed 18 = .ok (.iload_n 3, 1) := by decide +kernel
theorem dX5_areAllowed_19 : decode cX5_areAllowed 19 = .ok (.invokevirtual 77, 3) := by decide +kernel
theorem dX5_areAllowed_22 : decode cX5_areAllowed 22 = .ok (.istore 5, 2) := by decide +kernel
theorem dX5_areAllowed_24 : decode cX5_areAllowed 24 = .ok (.iload 4, 2) := by decide +kernel
theorem dX5_areAllowed_26 : decode cX5_areAllowed 26 = .ok (.iload 5, 2) := by decide +kernel
theorem dX5_areAllowed_28 : decode cX5_areAllowed 28 = .ok (.if_icmp .lt 29, 3) := by decide +kernel
theorem dX5_areAllowed_31 : decode cX5_areAllowed 31 = .ok (.iload 5, 2) := by decide +kernel
theorem dX5_areAllowed_33 : decode cX5_areAllowed 33 = .ok (.ifCond .eq 24, 3) := by decide +kernel
theorem dX5_areAllowed_36 : decode cX5_areAllowed 36 = .ok (.iload 4, 2) := by decide +kernel
theorem dX5_areAllowed_38 : decode cX5_areAllowed 38 = .ok (.iload 5, 2) := by decide +kernel
theorem dX5_areAllowed_40 : decode cX5_areAllowed 40 = .ok (.iadd, 1) := by decide +kernel
theorem dX5_areAllowed_41 : decode cX5_areAllowed 41 = .ok (.aload_n 0, 1) := by decide +kernel
theorem dX5_areAllowed_42 : decode cX5_areAllowed 42 = .ok (.getfield 37, 3) := by decide +kernel
theorem dX5_areAllowed_45 : decode cX5_areAllowed 45 = .ok (.iconst 0, 1) := by decide +kernel
theorem dX5_areAllowed_46 : decode cX5_areAllowed 46 = .ok (.iconst 1, 1) := by decide +kernel
theorem dX5_areAllowed_47 : decode cX5_areAllowed 47 = .ok (.invokevirtual 81, 3) := by decide +kernel
theorem dX5_areAllowed_50 : decode cX5_areAllowed 50 = .ok (.if_icmp .lt 7, 3) := by decide +kernel
theorem dX5_areAllowed_53 : decode cX5_areAllowed 53 = .ok (.iconst 1, 1) := by decide +kernel
theorem dX5_areAllowed_54 : decode cX5_areAllowed 54 = .ok (.goto 4, 3) := by decide +kernel
theorem dX5_areAllowed_57 : decode cX5_areAllowed 57 = .ok (.iconst 0, 1) := by decide +kernel
theorem dX5_areAllowed_58 : decode cX5_areAllowed 58 = .ok (.ireturn, 1) := by decide +kernel
theorem dX5_isLabelAllowed_0 : decode cX5_isLabelAllowed 0 = .ok (.aload_n 0, 1) := by decide +kernel
theorem dX5_isLabelAllowed_1 : decode cX5_isLabelAllowed 1 = .ok (.getfield 21, 3) := by decide +kernel
theorem dX5_isLabelAllowed_4 : decode cX5_isLabelAllowed 4 = .ok (.getfield 85, 3) := by decide +kernel
theorem dX5_isLabelAllowed_7 : decode cX5_isLabelAllowed 7 = .ok (.astore_n 2, 1) := by decide +kernel
theorem dX5_isLabelAllowed_8 : decode cX5_isLabelAllowed 8 = .ok (.aload_n 0, 1) := by decide +kernel
theorem dX5_isLabelAllowed_9 : decode cX5_isLabelAllowed 9 = .ok (.aload_n 0, 1) := by decide +kernel
theorem dX5_isLabelAllowed_10 : decode cX5_isLabelAllowed 10 = .ok (.getfield 21, 3) := by decide +kernel
theorem dX5_isLabelAllowed_13 : decode cX5_isLabelAllowed 13 = .ok (.iload_n 1, 1) := by decide +kernel
theorem dX5_isLabelAllowed_14 : decode cX5_isLabelAllowed 14 = .ok (.invokevirtual 88, 3) := by decide +kernel
theorem dX5_isLabelAllowed_17 : decode cX5_isLabelAllowed 17 = .ok (.aload_n 2, 1) := by decide +kernel
theorem dX5_isLabelAllowed_18 : decode cX5_isLabelAllowed 18 = .ok (.iload_n 1, 1) := by decide +kernel
theorem dX5_isLabelAllowed_19 : decode cX5_isLabelAllowed 19 = .ok (.iconst 3, 1) := by decide +kernel
theorem dX5_isLabelAllowed_20 : decode cX5_isLabelAllowed 20 = .ok (.invokevirtual 81, 3) := by decide +kernel
theorem dX5_isLabelAllowed_23 : decode cX5_isLabelAllowed 23 = .ok (.aload_n 2, 1) := by decide +kernel
theorem dX5_isLabelAllowed_24 : decode cX5_isLabelAllowed 24 = .ok (.iload_n 1, 1) := by decide +kernel
theorem dX5_isLabelAllowed_25 : decode cX5_isLabelAllowed 25 = .ok (.iconst 4, 1) := by decide +kernel
theorem dX5_isLabelAllowed_26 : decode cX5_isLabelAllowed 26 = .ok (.invokevirtual 81, 3) := by decide +kernel
theorem dX5_isLabelAllowed_29 : decode cX5_isLabelAllowed 29 = .ok (.aload_n 2, 1) := by decide +kernel
theorem dX5_isLabelAllowed_30 : decode cX5_isLabelAllowed 30 = .ok (.iload_n 1, 1) := by decide +kernel
theorem dX5_isLabelAllowed_31 : decode cX5_isLabelAllowed 31 = .ok (.iconst 5, 1) := by decide +kernel
theorem dX5_isLabelAllowed_32 : decode cX5_isLabelAllowed 32 = .ok (.invokevirtual 81, 3) := by decide +kernel
theorem dX5_isLabelAllowed_35 : decode cX5_isLabelAllowed 35 = .ok (.aload_n 2, 1) := by decide +kernel
theorem dX5_isLabelAllowed_36 : decode cX5_isLabelAllowed 36 = .ok (.iload_n 1, 1) := by decide +kernel
theorem dX5_isLabelAllowed_37 : decode cX5_isLabelAllowed 37 = .ok (.bipush 6, 2) := by decide +kernel
theorem dX5_isLabelAllowed_39 : decode cX5_isLabelAllowed 39 = .ok (.invokevirtual 81, 3) := by decide +kernel
theorem dX5_isLabelAllowed_42 : decode cX5_isLabelAllowed 42 = .ok (.invokevirtual 62, 3) := by decide +kernel
theorem dX5_isLabelAllowed_45 : decode cX5_isLabelAllowed 45 = .ok (.ifCond .ne 7, 3) := by decide +kernel
theorem dX5_isLabelAllowed_48 : decode cX5_isLabelAllowed 48 = .ok (.iconst 1, 1) := by decide +kernel
theorem dX5_isLabelAllowed_49 : decode cX5_isLabelAllowed 49 = .ok (.goto 4, 3) := by decide +kernel
theorem dX5_isLabelAllowed_52 : decode cX5_isLabelAllowed 52 = .ok (.iconst 0, 1) := by decide +kernel
theorem dX5_isLabelAllowed_53 : decode cX5_isLabelAllowed 53 = .ok (.ireturn, 1) := by decide +kernel
theorem dX6_init_0 : decode cX6_init 0 = .ok (.aload_n 0, 1) := by decide +kernel
theorem dX6_init_1 : decode cX6_init 1 = .ok (.invokespecial 3, 3) := by decide +kernel
theorem dX6_init_4 : decode cX6_init 4 = .ok (.aload_n 0, 1) := by decide +kernel
theorem dX6_init_5 : decode cX6_init 5 = .ok (.iload_n 1, 1) := by decide +kernel
theorem dX6_init_6 : decode cX6_init 6 = .ok (.putfield 9, 3) := by decide +kernel
theorem dX6_init_9 : decode cX6_init 9 = .ok (.aload_n 0, 1) := by decide +kernel
theorem dX6_init_10 : decode cX6_init 10 = .ok (.iload_n 2, 1) := by decide +kernel
theorem dX6_init_11 : decode cX6_init 11 = .ok (.putfield 15, 3) := by decide +kernel
theorem dX6_init_14 : decode cX6_init 14 = .ok (.aload_n 0, 1) := by decide +kernel
theorem dX6_init_15 : decode cX6_init 15 = .ok (.iconst 0, 1) := by decide +kernel
theorem dX6_init_16 : decode cX6_init 16 = .ok (.iload_n 1, 1) := by decide +kernel
theorem dX6_init_17 : decode cX6_init 17 = .ok (.iload_n 2, 1) := by decide +kernel
theorem dX6_init_18 : decode cX6_init 18 = .ok (.imul, 1) := by decide +kernel
theorem dX6_init_19 : decode cX6_init 19 = .ok (.invokestatic 18, 3) := by decide +kernel
theorem dX6_init_22 : decode cX6_init 22 = .ok (.newarray .int, 2) := by decide +kernel
theorem dX6_init_24 : decode cX6_init 24 = .ok (.putfield 24, 3) := by decide +kernel
theorem dX6_init_27 : decode cX6_init 27 = .ok (.return_, 1) := by decide +kernel
theorem dX6_placeOf_0 : decode cX6_placeOf 0 = .ok (.iload_n 1, 1) := by decide +kernel
theorem dX6_placeOf_1 : decode cX6_placeOf 1 = .ok (.ifCond .lt 34, 3) := by decide +kernel
theorem dX6_placeOf_4 : decode cX6_placeOf 4 = .ok (.iload_n 1, 1) := by decide +kernel
theorem dX6_placeOf_5 : decode cX6_placeOf 5 = .ok (.aload_n 0, 1) := by decide +kernel
theorem dX6_placeOf_6 : decode cX6_placeOf 6 = .ok (.getfield 9, 3) := by decide +kernel
theorem dX6_placeOf_9 : decode cX6_placeOf 9 = .ok (.if_icmp .ge 26, 3) := by decide +kernel
theorem dX6_placeOf_12 : decode cX6_placeOf 12 = .ok (.iload_n 2, 1) := by decide +kernel
theorem dX6_placeOf_13 : decode cX6_placeOf 13 = .ok (.ifCond .lt 22, 3) := by decide +kernel
theorem dX6_placeOf_16 : decode cX6_placeOf 16 = .ok (.iload_n 2, 1) := by decide +kernel
theorem dX6_placeOf_17 : decode cX6_placeOf 17 = .ok (.aload_n 0, 1) := by decide +kernel
theorem dX6_placeOf_18 : decode cX6_placeOf 18 = .ok (.getfield 15, 3) := by decide +kernel
theorem dX6_placeOf_21 : decode cX6_placeOf 21 = .ok (.if_icmp .ge 14, 3) := by decide +kernel
theorem dX6_placeOf_24 : decode cX6_placeOf 24 = .ok (.iload_n 1, 1) := by decide +kernel
theorem dX6_placeOf_25 : decode cX6_placeOf 25 = .ok (.aload_n 0, 1) := by decide +kernel
theorem dX6_placeOf_26 : decode cX6_placeOf 26 = .ok (.getfield 15, 3) := by decide +kernel
theorem dX6_placeOf_29 : decode cX6_placeOf 29 = .ok (.imul, 1) := by decide +kernel
theorem dX6_placeOf_30 : decode cX6_placeOf 30 = .ok (.iload_n 2, 1) := by decide +kernel
theorem dX6_placeOf_31 : decode cX6_placeOf 31 = .ok (.iadd, 1) := by decide +kernel
theorem dX6_placeOf_32 : decode cX6_placeOf 32 = .ok (.goto 4, 3) := by decide +kernel
theorem dX6_placeOf_35 : decode cX6_placeOf 35 = .ok (.iconst (-1), 1) := by decide +kernel
theorem dX6_placeOf_36 : decode cX6_placeOf 36 = .ok (.ireturn, 1) := by decide +kernel
theorem dX6_at_0 : decode cX6_at 0 = .ok (.aload_n 0, 1) := by decide +kernel
theorem dX6_at_1 : decode cX6_at 1 = .ok (.iload_n 1, 1) := by decide +kernel
theorem dX6_at_2 : decode cX6_at 2 = .ok (.iload_n 2, 1) := by decide +kernel
theorem dX6_at_3 : decode cX6_at 3 = .ok (.invokevirtual 28, 3) := by decide +kernel
theorem dX6_at_6 : decode cX6_at 6 = .ok (.istore_n 3, 1) := by decide +kernel
theorem dX6_at_7 : decode cX6_at 7 = .ok (.iload_n 3, 1) := by decide +kernel
theorem dX6_at_8 : decode cX6_at 8 = .ok (.ifCond .lt 21, 3) := by decide +kernel
theorem dX6_at_11 : decode cX6_at 11 = .ok (.iload_n 3, 1) := by decide +kernel
theorem dX6_at_12 : decode cX6_at 12 = .ok (.aload_n 0, 1) := by decide +kernel
theorem dX6_at_13 : decode cX6_at 13 = .ok (.getfield 24, 3) := by decide +kernel
theorem dX6_at_16 : decode cX6_at 16 = .ok (.arraylength, 1) := by decide +kernel
theorem dX6_at_17 : decode cX6_at 17 = .ok (.if_icmp .ge 12, 3) := by decide +kernel
theorem dX6_at_20 : decode cX6_at 20 = .ok (.aload_n 0, 1) := by decide +kernel
theorem dX6_at_21 : decode cX6_at 21 = .ok (.getfield 24, 3) := by decide +kernel
theorem dX6_at_24 : decode cX6_at 24 = .ok (.iload_n 3, 1) := by decide +kernel
theorem dX6_at_25 : decode cX6_at 25 = .ok (.iaload, 1) := by decide +kernel
theorem dX6_at_26 : decode cX6_at 26 = .ok (.goto 4, 3) := by decide +kernel
theorem dX6_at_29 : decode cX6_at 29 = .ok (.iconst 0, 1) := by decide +kernel
theorem dX6_at_30 : decode cX6_at 30 = .ok (.ireturn, 1) := by decide +kernel
theorem dX6_put_0 : decode cX6_put 0 = .ok (.aload_n 0, 1) := by decide +kernel
theorem dX6_put_1 : decode cX6_put 1 = .ok (.iload_n 1, 1) := by decide +kernel
theorem dX6_put_2 : decode cX6_put 2 = .ok (.iload_n 2, 1) := by decide +kernel
theorem dX6_put_3 : decode cX6_put 3 = .ok (.invokevirtual 28, 3) := by decide +kernel
theorem dX6_put_6 : decode cX6_put 6 = .ok (.istore 4, 2) := by decide +kernel
theorem dX6_put_8 : decode cX6_put 8 = .ok (.iload 4, 2) := by decide +kernel
theorem dX6_put_10 : decode cX6_put 10 = .ok (.ifCond .lt 21, 3) := by decide +kernel
theorem dX6_put_13 : decode cX6_put 13 = .ok (.iload 4, 2) := by decide +kernel
theorem dX6_put_15 : decode cX6_put 15 = .ok (.aload_n 0, 1) := by decide +kernel
theorem dX6_put_16 : decode cX6_put 16 = .ok (.getfield 24, 3) := by decide +kernel
theorem dX6_put_19 : decode cX6_put 19 = .ok (.arraylength, 1) := by decide +kernel
theorem dX6_put_20 : decode cX6_put 20 = .ok (.if_icmp .ge 11, 3) := by decide +kernel
theorem dX6_put_23 : decode cX6_put 23 = .ok (.aload_n 0, 1) := by decide +kernel
theorem dX6_put_24 : decode cX6_put 24 = .ok (.getfield 24, 3) := by decide +kernel
theorem dX6_put_27 : decode cX6_put 27 = .ok (.iload 4, 2) := by decide +kernel
theorem dX6_put_29 : decode cX6_put 29 = .ok (.iload_n 3, 1) := by decide +kernel
theorem dX6_put_30 : decode cX6_put 30 = .ok (.iastore, 1) := by decide +kernel
theorem dX6_put_31 : decode cX6_put 31 = .ok (.return_, 1) := by decide +kernel
theorem dX6_add_0 : decode cX6_add 0 = .ok (.aload_n 0, 1) := by decide +kernel
theorem dX6_add_1 : decode cX6_add 1 = .ok (.iload_n 1, 1) := by decide +kernel
theorem dX6_add_2 : decode cX6_add 2 = .ok (.iload_n 2, 1) := by decide +kernel
theorem dX6_add_3 : decode cX6_add 3 = .ok (.aload_n 0, 1) := by decide +kernel
theorem dX6_add_4 : decode cX6_add 4 = .ok (.iload_n 1, 1) := by decide +kernel
theorem dX6_add_5 : decode cX6_add 5 = .ok (.iload_n 2, 1) := by decide +kernel
theorem dX6_add_6 : decode cX6_add 6 = .ok (.invokevirtual 31, 3) := by decide +kernel
theorem dX6_add_9 : decode cX6_add 9 = .ok (.iload_n 3, 1) := by decide +kernel
theorem dX6_add_10 : decode cX6_add 10 = .ok (.iadd, 1) := by decide +kernel
theorem dX6_add_11 : decode cX6_add 11 = .ok (.invokevirtual 34, 3) := by decide +kernel
theorem dX6_add_14 : decode cX6_add 14 = .ok (.return_, 1) := by decide +kernel
theorem dX6_copyFrom_0 : decode cX6_copyFrom 0 = .ok (.aload_n 1, 1) := by decide +kernel
theorem dX6_copyFrom_1 : decode cX6_copyFrom 1 = .ok (.getfield 24, 3) := by decide +kernel
theorem dX6_copyFrom_4 : decode cX6_copyFrom 4 = .ok (.iconst 0, 1) := by decide +kernel
theorem dX6_copyFrom_5 : decode cX6_copyFrom 5 = .ok (.aload_n 0, 1) := by decide +kernel
theorem dX6_copyFrom_6 : decode cX6_copyFrom 6 = .ok (.getfield 24, 3) := by decide +kernel
theorem dX6_copyFrom_9 : decode cX6_copyFrom 9 = .ok (.iconst 0, 1) := by decide +kernel
theorem dX6_copyFrom_10 : decode cX6_copyFrom 10 = .ok (.aload_n 0, 1) := by decide +kernel
theorem dX6_copyFrom_11 : decode cX6_copyFrom 11 = .ok (.getfield 24, 3) := by decide +kernel
theorem dX6_copyFrom_14 : decode cX6_copyFrom 14 = .ok (.arraylength, 1) := by decide +kernel
theorem dX6_copyFrom_15 : decode cX6_copyFrom 15 = .ok (.aload_n 1, 1) := by decide +kernel
theorem dX6_copyFrom_16 : decode cX6_copyFrom 16 = .ok (.getfield 24, 3) := by decide +kernel
theorem dX6_copyFrom_19 : decode cX6_copyFrom 19 = .ok (.arraylength, 1) := by decide +kernel
theorem dX6_copyFrom_20 : decode cX6_copyFrom 20 = .ok (.invokestatic 38, 3) := by decide +kernel
theorem dX6_copyFrom_23 : decode cX6_copyFrom 23 = .ok (.invokestatic 41, 3) := by decide +kernel
theorem dX6_copyFrom_26 : decode cX6_copyFrom 26 = .ok (.return_, 1) := by decide +kernel
theorem dX6_sumOfColumn_0 : decode cX6_sumOfColumn 0 = .ok (.iconst 0, 1) := by decide +kernel
theorem dX6_sumOfColumn_1 : decode cX6_sumOfColumn 1 = .ok (.istore_n 2, 1) := by decide +kernel
theorem dX6_sumOfColumn_2 : decode cX6_sumOfColumn 2 = .ok (.iconst 0, 1) := by decide +kernel
theorem dX6_sumOfColumn_3 : decode cX6_sumOfColumn 3 = .ok (.istore_n 3, 1) := by decide +kernel
theorem dX6_sumOfColumn_4 : decode cX6_sumOfColumn 4 = .ok (.iload_n 3, 1) := by decide +kernel
theorem dX6_sumOfColumn_5 : decode cX6_sumOfColumn 5 = .ok (.aload_n 0, 1) := by decide +kernel
theorem dX6_sumOfColumn_6 : decode cX6_sumOfColumn 6 = .ok (.getfield 9, 3) := by decide +kernel
theorem dX6_sumOfColumn_9 : decode cX6_sumOfColumn 9 = .ok (.if_icmp .ge 18, 3) := by decide +kernel
theorem dX6_sumOfColumn_12 : decode cX6_sumOfColumn 12 = .ok (.iload_n 2, 1) := by decide +kernel
theorem dX6_sumOfColumn_13 : decode cX6_sumOfColumn 13 = .ok (.aload_n 0, 1) := by decide +kernel
theorem dX6_sumOfColumn_14 : decode cX6_sumOfColumn 14 = .ok (.iload_n 3, 1) := by decide +kernel
theorem dX6_sumOfColumn_15 : decode cX6_sumOfColumn 15 = .ok (.iload_n 1, 1) := by decide +kernel
theorem dX6_sumOfColumn_16 : decode cX6_sumOfColumn 16 = .ok (.invokevirtual 31, 3) := by decide +kernel
theorem dX6_sumOfColumn_19 : decode cX6_sumOfColumn 19 = .ok (.iadd, 1) := by decide +kernel
theorem dX6_sumOfColumn_20 : decode cX6_sumOfColumn 20 = .ok (.istore_n 2, 1) := by decide +kernel
theorem dX6_sumOfColumn_21 : decode cX6_sumOfColumn 21 = .ok (.iinc 3 1, 3) := by decide +kernel
theorem dX6_sumOfColumn_24 : decode cX6_sumOfColumn 24 = .ok (.goto (-20), 3) := by decide +kernel
theorem dX6_sumOfColumn_27 : decode cX6_sumOfColumn 27 = .ok (.iload_n 2, 1) := by decide +kernel
theorem dX6_sumOfColumn_28 : decode cX6_sumOfColumn 28 = .ok (.ireturn, 1) := by decide +kernel
theorem dX6_rankOf_0 : decode cX6_rankOf 0 = .ok (.aload_n 0, 1) := by decide +kernel
theorem dX6_rankOf_1 : decode cX6_rankOf 1 = .ok (.iload_n 1, 1) := by decide +kernel
theorem dX6_rankOf_2 : decode cX6_rankOf 2 = .ok (.iload_n 2, 1) := by decide +kernel
theorem dX6_rankOf_3 : decode cX6_rankOf 3 = .ok (.invokevirtual 31, 3) := by decide +kernel
theorem dX6_rankOf_6 : decode cX6_rankOf 6 = .ok (.istore_n 3, 1) := by decide +kernel
theorem dX6_rankOf_7 : decode cX6_rankOf 7 = .ok (.iconst 0, 1) := by decide +kernel
theorem dX6_rankOf_8 : decode cX6_rankOf 8 = .ok (.istore 4, 2) := by decide +kernel
theorem dX6_rankOf_10 : decode cX6_rankOf 10 = .ok (.iconst 0, 1) := by decide +kernel
theorem dX6_rankOf_11 : decode cX6_rankOf 11 = .ok (.istore 5, 2) := by decide +kernel
theorem dX6_rankOf_13 : decode cX6_rankOf 13 = .ok (.iload 5, 2) := by decide +kernel
theorem dX6_rankOf_15 : decode cX6_rankOf 15 = .ok (.aload_n 0, 1) := by decide +kernel
theorem dX6_rankOf_16 : decode cX6_rankOf 16 = .ok (.getfield 15, 3) := by decide +kernel
theorem dX6_rankOf_19 : decode cX6_rankOf 19 = .ok (.if_icmp .ge 39, 3) := by decide +kernel
theorem dX6_rankOf_22 : decode cX6_rankOf 22 = .ok (.aload_n 0, 1) := by decide +kernel
theorem dX6_rankOf_23 : decode cX6_rankOf 23 = .ok (.iload_n 1, 1) := by decide +kernel
theorem dX6_rankOf_24 : decode cX6_rankOf 24 = .ok (.iload 5, 2) := by decide +kernel
theorem dX6_rankOf_26 : decode cX6_rankOf 26 = .ok (.invokevirtual 31, 3) := by decide +kernel
theorem dX6_rankOf_29 : decode cX6_rankOf 29 = .ok (.istore 6, 2) := by decide +kernel
theorem dX6_rankOf_31 : decode cX6_rankOf 31 = .ok (.iload 6, 2) := by decide +kernel
theorem dX6_rankOf_33 : decode cX6_rankOf 33 = .ok (.iload_n 3, 1) := by decide +kernel
theorem dX6_rankOf_34 : decode cX6_rankOf 34 = .ok (.if_icmp .gt 15, 3) := by decide +kernel
theorem dX6_rankOf_37 : decode cX6_rankOf 37 = .ok (.iload 6, 2) := by decide +kernel
theorem dX6_rankOf_39 : decode cX6_rankOf 39 = .ok (.iload_n 3, 1) := by decide +kernel
theorem dX6_rankOf_40 : decode cX6_rankOf 40 = .ok (.if_icmp .ne 12, 3) := by decide +kernel
theorem dX6_rankOf_43 : decode cX6_rankOf 43 = .ok (.iload 5, 2) := by decide +kernel
theorem dX6_rankOf_45 : decode cX6_rankOf 45 = .ok (.iload_n 2, 1) := by decide +kernel
theorem dX6_rankOf_46 : decode cX6_rankOf 46 = .ok (.if_icmp .ge 6, 3) := by decide +kernel
theorem dX6_rankOf_49 : decode cX6_rankOf 49 = .ok (.iinc 4 1, 3) := by decide +kernel
theorem dX6_rankOf_52 : decode cX6_rankOf 52 = .ok (.iinc 5 1, 3) := by decide +kernel
theorem dX6_rankOf_55 : decode cX6_rankOf 55 = .ok (.goto (-42), 3) := by decide +kernel
theorem dX6_rankOf_58 : decode cX6_rankOf 58 = .ok (.iload 4, 2) := by decide +kernel
theorem dX6_rankOf_60 : decode cX6_rankOf 60 = .ok (.ireturn, 1) := by decide +kernel
theorem dX6_columnAtRank_0 : decode cX6_columnAtRank 0 = .ok (.iconst 0, 1) := by decide +kernel
theorem dX6_columnAtRank_1 : decode cX6_columnAtRank 1 = .ok (.istore_n 3, 1) := by decide +kernel
theorem dX6_columnAtRank_2 : decode cX6_columnAtRank 2 = .ok (.iload_n 3, 1) := by decide +kernel
theorem dX6_columnAtRank_3 : decode cX6_columnAtRank 3 = .ok (.aload_n 0, 1) := by decide +kernel
theorem dX6_columnAtRank_4 : decode cX6_columnAtRank 4 = .ok (.getfield 15, 3) := by decide +kernel
theorem dX6_columnAtRank_7 : decode cX6_columnAtRank 7 = .ok (.if_icmp .ge 21, 3) := by decide +kernel
theorem dX6_columnAtRank_10 : decode cX6_columnAtRank 10 = .ok (.aload_n 0, 1) := by decide +kernel
theorem dX6_columnAtRank_11 : decode cX6_columnAtRank 11 = .ok (.iload_n 1, 1) := by decide +kernel
theorem dX6_columnAtRank_12 : decode cX6_columnAtRank 12 = .ok (.iload_n 3, 1) := by decide +kernel
theorem dX6_columnAtRank_13 : decode cX6_columnAtRank 13 = .ok (.invokevirtual 47, 3) := by decide +kernel
theorem dX6_columnAtRank_16 : decode cX6_columnAtRank 16 = .ok (.iload_n 2, 1) := by decide +kernel
theorem dX6_columnAtRank_17 : decode cX6_columnAtRank 17 = .ok (.if_icmp .ne 5, 3) := by decide +kernel
theorem dX6_columnAtRank_20 : decode cX6_columnAtRank 20 = .ok (.iload_n 3, 1) := by decide +kernel
theorem dX6_columnAtRank_21 : decode cX6_columnAtRank 21 = .ok (.ireturn, 1) := by decide +kernel
theorem dX6_columnAtRank_22 : decode cX6_columnAtRank 22 = .ok (.iinc 3 1, 3) := by decide +kernel
theorem dX6_columnAtRank_25 : decode cX6_columnAtRank 25 = .ok (.goto (-23), 3) := by decide +kernel
theorem dX6_columnAtRank_28 : decode cX6_columnAtRank 28 = .ok (.iconst (-1), 1) := by decide +kernel
theorem dX6_columnAtRank_29 : decode cX6_columnAtRank 29 = .ok (.ireturn, 1) := by decide +kernel
theorem dX6_columnOf_0 : decode cX6_columnOf 0 = .ok (.iconst 0, 1) := by decide +kernel
theorem dX6_columnOf_1 : decode cX6_columnOf 1 = .ok (.istore_n 3, 1) := by decide +kernel
theorem dX6_columnOf_2 : decode cX6_columnOf 2 = .ok (.iload_n 3, 1) := by decide +kernel
theorem dX6_columnOf_3 : decode cX6_columnOf 3 = .ok (.iload_n 2, 1) := by decide +kernel
theorem dX6_columnOf_4 : decode cX6_columnOf 4 = .ok (.if_icmp .ge 21, 3) := by decide +kernel
theorem dX6_columnOf_7 : decode cX6_columnOf 7 = .ok (.aload_n 0, 1) := by decide +kernel
theorem dX6_columnOf_8 : decode cX6_columnOf 8 = .ok (.iconst 0, 1) := by decide +kernel
theorem dX6_columnOf_9 : decode cX6_columnOf 9 = .ok (.iload_n 3, 1) := by decide +kernel
theorem dX6_columnOf_10 : decode cX6_columnOf 10 = .ok (.invokevirtual 31, 3) := by decide +kernel
theorem dX6_columnOf_13 : decode cX6_columnOf 13 = .ok (.iload_n 1, 1) := by decide +kernel
theorem dX6_columnOf_14 : decode cX6_columnOf 14 = .ok (.if_icmp .ne 5, 3) := by decide +kernel
theorem dX6_columnOf_17 : decode cX6_columnOf 17 = .ok (.iload_n 3, 1) := by decide +kernel
theorem dX6_columnOf_18 : decode cX6_columnOf 18 = .ok (.ireturn, 1) := by decide +kernel
theorem dX6_columnOf_19 : decode cX6_columnOf 19 = .ok (.iinc 3 1, 3) := by decide +kernel
theorem dX6_columnOf_22 : decode cX6_columnOf 22 = .ok (.goto (-20), 3) := by decide +kernel
theorem dX6_columnOf_25 : decode cX6_columnOf 25 = .ok (.iconst (-1), 1) := by decide +kernel
theorem dX6_columnOf_26 : decode cX6_columnOf 26 = .ok (.ireturn, 1) := by decide +kernel
theorem dX7_init_0 : decode cX7_init 0 = .ok (.aload_n 0, 1) := by decide +kernel
theorem dX7_init_1 : decode cX7_init 1 = .ok (.invokespecial 1, 3) := by decide +kernel
theorem dX7_init_4 : decode cX7_init 4 = .ok (.aload_n 0, 1) := by decide +kernel
theorem dX7_init_5 : decode cX7_init 5 = .ok (.new 7, 3) := by decide +kernel
theorem dX7_init_8 : decode cX7_init 8 = .ok (.dup, 1) := by decide +kernel
theorem dX7_init_9 : decode cX7_init 9 = .ok (.invokespecial 9, 3) := by decide +kernel
theorem dX7_init_12 : decode cX7_init 12 = .ok (.putfield 10, 3) := by decide +kernel
theorem dX7_init_15 : decode cX7_init 15 = .ok (.aload_n 0, 1) := by decide +kernel
theorem dX7_init_16 : decode cX7_init 16 = .ok (.new 7, 3) := by decide +kernel
theorem dX7_init_19 : decode cX7_init 19 = .ok (.dup, 1) := by decide +kernel
theorem dX7_init_20 : decode cX7_init 20 = .ok (.invokespecial 9, 3) := by decide +kernel
theorem dX7_init_23 : decode cX7_init 23 = .ok (.putfield 16, 3) := by decide +kernel
theorem dX7_init_26 : decode cX7_init 26 = .ok (.aload_n 0, 1) := by decide +kernel
theorem dX7_init_27 : decode cX7_init 27 = .ok (.new 19, 3) := by decide +kernel
theorem dX7_init_30 : decode cX7_init 30 = .ok (.dup, 1) := by decide +kernel
theorem dX7_init_31 : decode cX7_init 31 = .ok (.invokespecial 21, 3) := by decide +kernel
theorem dX7_init_34 : decode cX7_init 34 = .ok (.putfield 22, 3) := by decide +kernel
theorem dX7_init_37 : decode cX7_init 37 = .ok (.aload_n 0, 1) := by decide +kernel
theorem dX7_init_38 : decode cX7_init 38 = .ok (.new 26, 3) := by decide +kernel
theorem dX7_init_41 : decode cX7_init 41 = .ok (.dup, 1) := by decide +kernel
theorem dX7_init_42 : decode cX7_init 42 = .ok (.invokespecial 28, 3) := by decide +kernel
theorem dX7_init_45 : decode cX7_init 45 = .ok (.putfield 29, 3) := by decide +kernel
theorem dX7_init_48 : decode cX7_init 48 = .ok (.aload_n 0, 1) := by decide +kernel
theorem dX7_init_49 : decode cX7_init 49 = .ok (.new 33, 3) := by decide +kernel
theorem dX7_init_52 : decode cX7_init 52 = .ok (.dup, 1) := by decide +kernel
theorem dX7_init_53 : decode cX7_init 53 = .ok (.iconst 1, 1) := by decide +kernel
theorem dX7_init_54 : decode cX7_init 54 = .ok (.bipush 8, 2) := by decide +kernel
theorem dX7_init_56 : decode cX7_init 56 = .ok (.invokespecial 35, 3) := by decide +kernel
theorem dX7_init_59 : decode cX7_init 59 = .ok (.putfield 38, 3) := by decide +kernel
theorem dX7_init_62 : decode cX7_init 62 = .ok (.aload_n 0, 1) := by decide +kernel
theorem dX7_init_63 : decode cX7_init 63 = .ok (.new 33, 3) := by decide +kernel
theorem dX7_init_66 : decode cX7_init 66 = .ok (.dup, 1) := by decide +kernel
theorem dX7_init_67 : decode cX7_init 67 = .ok (.iconst 1, 1) := by decide +kernel
theorem dX7_init_68 : decode cX7_init 68 = .ok (.bipush 12, 2) := by decide +kernel
theorem dX7_init_70 : decode cX7_init 70 = .ok (.invokespecial 35, 3) := by decide +kernel
theorem dX7_init_73 : decode cX7_init 73 = .ok (.putfield 42, 3) := by decide +kernel
theorem dX7_init_76 : decode cX7_init 76 = .ok (.aload_n 0, 1) := by decide +kernel
theorem dX7_init_77 : decode cX7_init 77 = .ok (.new 33, 3) := by decide +kernel
theorem dX7_init_80 : decode cX7_init 80 = .ok (.dup, 1) := by decide +kernel
theorem dX7_init_81 : decode cX7_init 81 = .ok (.iconst 1, 1) := by decide +kernel
theorem dX7_init_82 : decode cX7_init 82 = .ok (.bipush 24, 2) := by decide +kernel
theorem dX7_init_84 : decode cX7_init 84 = .ok (.invokespecial 35, 3) := by decide +kernel
theorem dX7_init_87 : decode cX7_init 87 = .ok (.putfield 45, 3) := by decide +kernel
theorem dX7_init_90 : decode cX7_init 90 = .ok (.aload_n 0, 1) := by decide +kernel
theorem dX7_init_91 : decode cX7_init 91 = .ok (.iconst 0, 1) := by decide +kernel
theorem dX7_init_92 : decode cX7_init 92 = .ok (.putfield 48, 3) := by decide +kernel
theorem dX7_init_95 : decode cX7_init 95 = .ok (.aload_n 0, 1) := by decide +kernel
theorem dX7_init_96 : decode cX7_init 96 = .ok (.iconst (-1), 1) := by decide +kernel
theorem dX7_init_97 : decode cX7_init 97 = .ok (.putfield 52, 3) := by decide +kernel
theorem dX7_init_100 : decode cX7_init 100 = .ok (.aload_n 0, 1) := by decide +kernel
theorem dX7_init_101 : decode cX7_init 101 = .ok (.iconst (-1), 1) := by decide +kernel
theorem dX7_init_102 : decode cX7_init 102 = .ok (.putfield 56, 3) := by decide +kernel
theorem dX7_init_105 : decode cX7_init 105 = .ok (.return_, 1) := by decide +kernel
theorem dX7_harvest_0 : decode cX7_harvest 0 = .ok (.iload_n 1, 1) := by decide +kernel
theorem dX7_harvest_1 : decode cX7_harvest 1 = .ok (.iconst 0, 1) := by decide +kernel
theorem dX7_harvest_2 : decode cX7_harvest 2 = .ok (.bipush 99, 2) := by decide +kernel
theorem dX7_harvest_4 : decode cX7_harvest 4 = .ok (.invokestatic 59, 3) := by decide +kernel
theorem dX7_harvest_7 : decode cX7_harvest 7 = .ok (.iload_n 2, 1) := by decide +kernel
theorem dX7_harvest_8 : decode cX7_harvest 8 = .ok (.iconst 0, 1) := by decide +kernel
theorem dX7_harvest_9 : decode cX7_harvest 9 = .ok (.iconst 4, 1) := by decide +kernel
theorem dX7_harvest_10 : decode cX7_harvest 10 = .ok (.invokestatic 59, 3) := by decide +kernel
theorem dX7_harvest_13 : decode cX7_harvest 13 = .ok (.iload_n 3, 1) := by decide +kernel
theorem dX7_harvest_14 : decode cX7_harvest 14 = .ok (.iconst 0, 1) := by decide +kernel
theorem dX7_harvest_15 : decode cX7_harvest 15 = .ok (.iconst 3, 1) := by decide +kernel
theorem dX7_harvest_16 : decode cX7_harvest 16 = .ok (.invokestatic 59, 3) := by decide +kernel
theorem dX7_harvest_19 : decode cX7_harvest 19 = .ok (.iload 4, 2) := by decide +kernel
theorem dX7_harvest_21 : decode cX7_harvest 21 = .ok (.iconst 1, 1) := by decide +kernel
theorem dX7_harvest_22 : decode cX7_harvest 22 = .ok (.sipush 9999, 3) := by decide +kernel
theorem dX7_harvest_25 : decode cX7_harvest 25 = .ok (.invokestatic 59, 3) := by decide +kernel
theorem dX7_harvest_28 : decode cX7_harvest 28 = .ok (.aload_n 0, 1) := by decide +kernel
theorem dX7_harvest_29 : decode cX7_harvest 29 = .ok (.getfield 10, 3) := by decide +kernel
theorem dX7_harvest_32 : decode cX7_harvest 32 = .ok (.getfield 63, 3) := by decide +kernel
theorem dX7_harvest_35 : decode cX7_harvest 35 = .ok (.getfield 67, 3) := by decide +kernel
theorem dX7_harvest_38 : decode cX7_harvest 38 = .ok (.bipush 24, 2) := by decide +kernel
theorem dX7_harvest_40 : decode cX7_harvest 40 = .ok (.if_icmp .ge 18, 3) := by decide +kernel
theorem dX7_harvest_43 : decode cX7_harvest 43 = .ok (.aload_n 0, 1) := by decide +kernel
theorem dX7_harvest_44 : decode cX7_harvest 44 = .ok (.getfield 10, 3) := by decide +kernel
theorem dX7_harvest_47 : decode cX7_harvest 47 = .ok (.getfield 63, 3) := by decide +kernel
theorem dX7_harvest_50 : decode cX7_harvest 50 = .ok (.getfield 72, 3) := by decide +kernel
theorem dX7_harvest_53 : decode cX7_harvest 53 = .ok (.bipush 12, 2) := by decide +kernel
theorem dX7_harvest_55 : decode cX7_harvest 55 = .ok (.if_icmp .lt 13, 3) := by decide +kernel
theorem dX7_harvest_58 : decode cX7_harvest 58 = .ok (.new 75, 3) := by decide +kernel
theorem dX7_harvest_61 : decode cX7_harvest 61 = .ok (.dup, 1) := by decide +kernel
theorem dX7_harvest_62 : decode cX7_harvest 62 = .ok (.ldc 77, 2) := by decide +kernel
theorem dX7_harvest_64 : decode cX7_harvest 64 = .ok (.invokespecial 79, 3) := by decide +kernel
theorem dX7_harvest_67 : decode cX7_harvest 67 = .ok (.athrow, 1) := by decide +kernel
theorem dX7_harvest_68 : decode cX7_harvest 68 = .ok (.aload_n 0, 1) := by decide +kernel
theorem dX7_harvest_69 : decode cX7_harvest 69 = .ok (.getfield 22, 3) := by decide +kernel
theorem dX7_harvest_72 : decode cX7_harvest 72 = .ok (.aload_n 0, 1) := by decide +kernel
theorem dX7_harvest_73 : decode cX7_harvest 73 = .ok (.getfield 10, 3) := by decide +kernel
theorem dX7_harvest_76 : decode cX7_harvest 76 = .ok (.invokevirtual 82, 3) := by decide +kernel
theorem dX7_harvest_79 : decode cX7_harvest 79 = .ok (.aload_n 0, 1) := by decide +kernel
theorem dX7_harvest_80 : decode cX7_harvest 80 = .ok (.getfield 10, 3) := by decide +kernel
theorem dX7_harvest_83 : decode cX7_harvest 83 = .ok (.getfield 63, 3) := by decide +kernel
theorem dX7_harvest_86 : decode cX7_harvest 86 = .ok (.iload_n 1, 1) := by decide +kernel
theorem dX7_harvest_87 : decode cX7_harvest 87 = .ok (.iload_n 2, 1) := by decide +kernel
theorem dX7_harvest_88 : decode cX7_harvest 88 = .ok (.iload_n 3, 1) := by decide +kernel
theorem dX7_harvest_89 : decode cX7_harvest 89 = .ok (.iload 4, 2) := by decide +kernel
theorem dX7_harvest_91 : decode cX7_harvest 91 = .ok (.invokevirtual 86, 3) := by decide +kernel
theorem dX7_harvest_94 : decode cX7_harvest 94 = .ok (.ireturn, 1) := by decide +kernel
theorem dX7_blend_0 : decode cX7_blend 0 = .ok (.aload_n 0, 1) := by decide +kernel
theorem dX7_blend_1 : decode cX7_blend 1 = .ok (.getfield 29, 3) := by decide +kernel
theorem dX7_blend_4 : decode cX7_blend 4 = .ok (.invokevirtual 90, 3) := by decide +kernel
theorem dX7_blend_7 : decode cX7_blend 7 = .ok (.istore_n 1, 1) := by decide +kernel
theorem dX7_blend_8 : decode cX7_blend 8 = .ok (.aload_n 0, 1) := by decide +kernel
theorem dX7_blend_9 : decode cX7_blend 9 = .ok (.getfield 29, 3) := by decide +kernel
theorem dX7_blend_12 : decode cX7_blend 12 = .ok (.iconst 0, 1) := by decide +kernel
theorem dX7_blend_13 : decode cX7_blend 13 = .ok (.putfield 94, 3) := by decide +kernel
theorem dX7_blend_16 : decode cX7_blend 16 = .ok (.iload_n 1, 1) := by decide +kernel
theorem dX7_blend_17 : decode cX7_blend 17 = .ok (.ifCond .ne 24, 3) := by decide +kernel
theorem dX7_blend_20 : decode cX7_blend 20 = .ok (.aload_n 0, 1) := by decide +kernel
theorem dX7_blend_21 : decode cX7_blend 21 = .ok (.aload_n 0, 1) := by decide +kernel
theorem dX7_blend_22 : decode cX7_blend 22 = .ok (.getfield 29, 3) := by decide +kernel
theorem dX7_blend_25 : decode cX7_blend 25 = .ok (.getfield 97, 3) := by decide +kernel
theorem dX7_blend_28 : decode cX7_blend 28 = .ok (.putfield 56, 3) := by decide +kernel
theorem dX7_blend_31 : decode cX7_blend 31 = .ok (.new 100, 3) := by decide +kernel
theorem dX7_blend_34 : decode cX7_blend 34 = .ok (.dup, 1) := by decide +kernel
theorem dX7_blend_35 : decode cX7_blend 35 = .ok (.ldc 102, 2) := by decide +kernel
theorem dX7_blend_37 : decode cX7_blend 37 = .ok (.invokespecial 104, 3) := by decide +kernel
theorem dX7_blend_40 : decode cX7_blend 40 = .ok (.athrow, 1) := by decide +kernel
theorem dX7_blend_41 : decode cX7_blend 41 = .ok (.aload_n 0, 1) := by decide +kernel
theorem dX7_blend_42 : decode cX7_blend 42 = .ok (.getfield 29, 3) := by decide +kernel
theorem dX7_blend_45 : decode cX7_blend 45 = .ok (.invokevirtual 105, 3) := by decide +kernel
theorem dX7_blend_48 : decode cX7_blend 48 = .ok (.ifCond .eq 13, 3) := by decide +kernel
theorem dX7_blend_51 : decode cX7_blend 51 = .ok (.new 100, 3) := by decide +kernel
theorem dX7_blend_54 : decode cX7_blend 54 = .ok (.dup, 1) := by decide +kernel
theorem dX7_blend_55 : decode cX7_blend 55 = .ok (.ldc 108, 2) := by decide +kernel
theorem dX7_blend_57 : decode cX7_blend 57 = .ok (.invokespecial 104, 3) := by decide +kernel
theorem dX7_blend_60 : decode cX7_blend 60 = .ok (.athrow, 1) := by decide +kernel
theorem dX7_blend_61 : decode cX7_blend 61 = .ok (.aload_n 0, 1) := by decide +kernel
theorem dX7_blend_62 : decode cX7_blend 62 = .ok (.aload_n 0, 1) := by decide +kernel
theorem dX7_blend_63 : decode cX7_blend 63 = .ok (.getfield 10, 3) := by decide +kernel
theorem dX7_blend_66 : decode cX7_blend 66 = .ok (.getfield 63, 3) := by decide +kernel
theorem dX7_blend_69 : decode cX7_blend 69 = .ok (.aload_n 0, 1) := by decide +kernel
theorem dX7_blend_70 : decode cX7_blend 70 = .ok (.getfield 29, 3) := by decide +kernel
theorem dX7_blend_73 : decode cX7_blend 73 = .ok (.invokevirtual 110, 3) := by decide +kernel
theorem dX7_blend_76 : decode cX7_blend 76 = .ok (.invokevirtual 114, 3) := by decide +kernel
theorem dX7_blend_79 : decode cX7_blend 79 = .ok (.aload_n 0, 1) := by decide +kernel
theorem dX7_blend_80 : decode cX7_blend 80 = .ok (.getfield 22, 3) := by decide +kernel
theorem dX7_blend_83 : decode cX7_blend 83 = .ok (.aload_n 0, 1) := by decide +kernel
theorem dX7_blend_84 : decode cX7_blend 84 = .ok (.getfield 10, 3) := by decide +kernel
theorem dX7_blend_87 : decode cX7_blend 87 = .ok (.invokevirtual 82, 3) := by decide +kernel
theorem dX7_blend_90 : decode cX7_blend 90 = .ok (.aload_n 0, 1) := by decide +kernel
theorem dX7_blend_91 : decode cX7_blend 91 = .ok (.getfield 10, 3) := by decide +kernel
theorem dX7_blend_94 : decode cX7_blend 94 = .ok (.getfield 63, 3) := by decide +kernel
theorem dX7_blend_97 : decode cX7_blend 97 = .ok (.aload_n 0, 1) := by decide +kernel
theorem dX7_blend_98 : decode cX7_blend 98 = .ok (.getfield 29, 3) := by decide +kernel
theorem dX7_blend_101 : decode cX7_blend 101 = .ok (.aload_n 0, 1) := by decide +kernel
theorem dX7_blend_102 : decode cX7_blend 102 = .ok (.getfield 42, 3) := by decide +kernel
theorem dX7_blend_105 : decode cX7_blend 105 = .ok (.invokevirtual 118, 3) := by decide +kernel
theorem dX7_blend_108 : decode cX7_blend 108 = .ok (.ireturn, 1) := by decide +kernel
theorem dX7_spill_0 : decode cX7_spill 0 = .ok (.aload_n 0, 1) := by decide +kernel
theorem dX7_spill_1 : decode cX7_spill 1 = .ok (.iload_n 1, 1) := by decide +kernel
theorem dX7_spill_2 : decode cX7_spill 2 = .ok (.invokevirtual 122, 3) := by decide +kernel
theorem dX7_spill_5 : decode cX7_spill 5 = .ok (.iload_n 2, 1) := by decide +kernel
theorem dX7_spill_6 : decode cX7_spill 6 = .ok (.iconst 1, 1) := by decide +kernel
theorem dX7_spill_7 : decode cX7_spill 7 = .ok (.sipush 9999, 3) := by decide +kernel
theorem dX7_spill_10 : decode cX7_spill 10 = .ok (.aload_n 0, 1) := by decide +kernel
theorem dX7_spill_11 : decode cX7_spill 11 = .ok (.getfield 10, 3) := by decide +kernel
theorem dX7_spill_14 : decode cX7_spill 14 = .ok (.getfield 63, 3) := by decide +kernel
theorem dX7_spill_17 : decode cX7_spill 17 = .ok (.iload_n 1, 1) := by decide +kernel
theorem dX7_spill_18 : decode cX7_spill 18 = .ok (.invokevirtual 125, 3) := by decide +kernel
theorem dX7_spill_21 : decode cX7_spill 21 = .ok (.invokestatic 129, 3) := by decide +kernel
theorem dX7_spill_24 : decode cX7_spill 24 = .ok (.invokestatic 59, 3) := by decide +kernel
theorem dX7_spill_27 : decode cX7_spill 27 = .ok (.aload_n 0, 1) := by decide +kernel
theorem dX7_spill_28 : decode cX7_spill 28 = .ok (.getfield 22, 3) := by decide +kernel
theorem dX7_spill_31 : decode cX7_spill 31 = .ok (.aload_n 0, 1) := by decide +kernel
theorem dX7_spill_32 : decode cX7_spill 32 = .ok (.getfield 10, 3) := by decide +kernel
theorem dX7_spill_35 : decode cX7_spill 35 = .ok (.invokevirtual 82, 3) := by decide +kernel
theorem dX7_spill_38 : decode cX7_spill 38 = .ok (.aload_n 0, 1) := by decide +kernel
theorem dX7_spill_39 : decode cX7_spill 39 = .ok (.getfield 10, 3) := by decide +kernel
theorem dX7_spill_42 : decode cX7_spill 42 = .ok (.getfield 63, 3) := by decide +kernel
theorem dX7_spill_45 : decode cX7_spill 45 = .ok (.iload_n 1, 1) := by decide +kernel
theorem dX7_spill_46 : decode cX7_spill 46 = .ok (.iload_n 2, 1) := by decide +kernel
theorem dX7_spill_47 : decode cX7_spill 47 = .ok (.invokevirtual 135, 3) := by decide +kernel
theorem dX7_spill_50 : decode cX7_spill 50 = .ok (.aload_n 0, 1) := by decide +kernel
theorem dX7_spill_51 : decode cX7_spill 51 = .ok (.getfield 10, 3) := by decide +kernel
theorem dX7_spill_54 : decode cX7_spill 54 = .ok (.getfield 63, 3) := by decide +kernel
theorem dX7_spill_57 : decode cX7_spill 57 = .ok (.dup, 1) := by decide +kernel
theorem dX7_spill_58 : decode cX7_spill 58 = .ok (.getfield 138, 3) := by decide +kernel
theorem dX7_spill_61 : decode cX7_spill 61 = .ok (.iload_n 2, 1) := by decide +kernel
theorem dX7_spill_62 : decode cX7_spill 62 = .ok (.iadd, 1) := by decide +kernel
theorem dX7_spill_63 : decode cX7_spill 63 = .ok (.putfield 138, 3) := by decide +kernel
theorem dX7_spill_66 : decode cX7_spill 66 = .ok (.aload_n 0, 1) := by decide +kernel
theorem dX7_spill_67 : decode cX7_spill 67 = .ok (.getfield 10, 3) := by decide +kernel
theorem dX7_spill_70 : decode cX7_spill 70 = .ok (.getfield 63, 3) := by decide +kernel
theorem dX7_spill_73 : decode cX7_spill 73 = .ok (.iload_n 1, 1) := by decide +kernel
theorem dX7_spill_74 : decode cX7_spill 74 = .ok (.invokevirtual 125, 3) := by decide +kernel
theorem dX7_spill_77 : decode cX7_spill 77 = .ok (.ireturn, 1) := by decide +kernel
theorem dX7_lot_0 : decode cX7_lot 0 = .ok (.aload_n 0, 1) := by decide +kernel
theorem dX7_lot_1 : decode cX7_lot 1 = .ok (.iload_n 1, 1) := by decide +kernel
theorem dX7_lot_2 : decode cX7_lot 2 = .ok (.invokevirtual 122, 3) := by decide +kernel
theorem dX7_lot_5 : decode cX7_lot 5 = .ok (.iload_n 2, 1) := by decide +kernel
theorem dX7_lot_6 : decode cX7_lot 6 = .ok (.iconst 0, 1) := by decide +kernel
theorem dX7_lot_7 : decode cX7_lot 7 = .ok (.bipush 6, 2) := by decide +kernel
theorem dX7_lot_9 : decode cX7_lot 9 = .ok (.invokestatic 59, 3) := by decide +kernel
theorem dX7_lot_12 : decode cX7_lot 12 = .ok (.iload_n 2, 1) := by decide +kernel
theorem dX7_lot_13 : decode cX7_lot 13 = .ok (.iconst 5, 1) := by decide +kernel
theorem dX7_lot_14 : decode cX7_lot 14 = .ok (.if_icmp .ne 15, 3) := by decide +kernel
theorem dX7_lot_17 : decode cX7_lot 17 = .ok (.aload_n 0, 1) := by decide +kernel
theorem dX7_lot_18 : decode cX7_lot 18 = .ok (.getfield 10, 3) := by decide +kernel
theorem dX7_lot_21 : decode cX7_lot 21 = .ok (.getfield 63, 3) := by decide +kernel
theorem dX7_lot_24 : decode cX7_lot 24 = .ok (.iload_n 1, 1) := by decide +kernel
theorem dX7_lot_25 : decode cX7_lot 25 = .ok (.invokevirtual 141, 3) := by decide +kernel
theorem dX7_lot_28 : decode cX7_lot 28 = .ok (.ireturn, 1) := by decide +kernel
theorem dX7_lot_29 : decode cX7_lot 29 = .ok (.iload_n 2, 1) := by decide +kernel
theorem dX7_lot_30 : decode cX7_lot 30 = .ok (.bipush 6, 2) := by decide +kernel
theorem dX7_lot_32 : decode cX7_lot 32 = .ok (.if_icmp .ne 18, 3) := by decide +kernel
theorem dX7_lot_35 : decode cX7_lot 35 = .ok (.aload_n 0, 1) := by decide +kernel
theorem dX7_lot_36 : decode cX7_lot 36 = .ok (.getfield 10, 3) := by decide +kernel
theorem dX7_lot_39 : decode cX7_lot 39 = .ok (.getfield 63, 3) := by decide +kernel
theorem dX7_lot_42 : decode cX7_lot 42 = .ok (.iload_n 1, 1) := by decide +kernel
theorem dX7_lot_43 : decode cX7_lot 43 = .ok (.invokevirtual 144, 3) := by decide +kernel
theorem dX7_lot_46 : decode cX7_lot 46 = .ok (.invokestatic 147, 3) := by decide +kernel
theorem dX7_lot_49 : decode cX7_lot 49 = .ok (.ireturn, 1) := by decide +kernel
theorem dX7_lot_50 : decode cX7_lot 50 = .ok (.aload_n 0, 1) := by decide +kernel
theorem dX7_lot_51 : decode cX7_lot 51 = .ok (.getfield 10, 3) := by decide +kernel
theorem dX7_lot_54 : decode cX7_lot 54 = .ok (.getfield 63, 3) := by decide +kernel
theorem dX7_lot_57 : decode cX7_lot 57 = .ok (.getfield 152, 3) := by decide +kernel
theorem dX7_lot_60 : decode cX7_lot 60 = .ok (.iload_n 1, 1) := by decide +kernel
theorem dX7_lot_61 : decode cX7_lot 61 = .ok (.iload_n 2, 1) := by decide +kernel
theorem dX7_lot_62 : decode cX7_lot 62 = .ok (.invokevirtual 155, 3) := by decide +kernel
theorem dX7_lot_65 : decode cX7_lot 65 = .ok (.ireturn, 1) := by decide +kernel
theorem dX7_part_0 : decode cX7_part 0 = .ok (.aload_n 0, 1) := by decide +kernel
theorem dX7_part_1 : decode cX7_part 1 = .ok (.iload_n 1, 1) := by decide +kernel
theorem dX7_part_2 : decode cX7_part 2 = .ok (.invokevirtual 122, 3) := by decide +kernel
theorem dX7_part_5 : decode cX7_part 5 = .ok (.iload_n 2, 1) := by decide +kernel
theorem dX7_part_6 : decode cX7_part 6 = .ok (.iconst 0, 1) := by decide +kernel
theorem dX7_part_7 : decode cX7_part 7 = .ok (.aload_n 0, 1) := by decide +kernel
theorem dX7_part_8 : decode cX7_part 8 = .ok (.getfield 10, 3) := by decide +kernel
theorem dX7_part_11 : decode cX7_part 11 = .ok (.getfield 63, 3) := by decide +kernel
theorem dX7_part_14 : decode cX7_part 14 = .ok (.iload_n 1, 1) := by decide +kernel
theorem dX7_part_15 : decode cX7_part 15 = .ok (.invokevirtual 158, 3) := by decide +kernel
theorem dX7_part_18 : decode cX7_part 18 = .ok (.iconst 1, 1) := by decide +kernel
theorem dX7_part_19 : decode cX7_part 19 = .ok (.isub, 1) := by decide +kernel
theorem dX7_part_20 : decode cX7_part 20 = .ok (.invokestatic 161, 3) := by decide +kernel
theorem dX7_part_23 : decode cX7_part 23 = .ok (.ifCond .ne 13, 3) := by decide +kernel
theorem dX7_part_26 : decode cX7_part 26 = .ok (.new 165, 3) := by decide +kernel
theorem dX7_part_29 : decode cX7_part 29 = .ok (.dup, 1) := by decide +kernel
theorem dX7_part_30 : decode cX7_part 30 = .ok (.ldc 167, 2) := by decide +kernel
theorem dX7_part_32 : decode cX7_part 32 = .ok (.invokespecial 169, 3) := by decide +kernel
theorem dX7_part_35 : decode cX7_part 35 = .ok (.athrow, 1) := by decide +kernel
theorem dX7_part_36 : decode cX7_part 36 = .ok (.iload_n 3, 1) := by decide +kernel
theorem dX7_part_37 : decode cX7_part 37 = .ok (.iconst 0, 1) := by decide +kernel
theorem dX7_part_38 : decode cX7_part 38 = .ok (.iconst 1, 1) := by decide +kernel
theorem dX7_part_39 : decode cX7_part 39 = .ok (.invokestatic 59, 3) := by decide +kernel
theorem dX7_part_42 : decode cX7_part 42 = .ok (.iload_n 3, 1) := by decide +kernel
theorem dX7_part_43 : decode cX7_part 43 = .ok (.ifCond .ne 21, 3) := by decide +kernel
theorem dX7_part_46 : decode cX7_part 46 = .ok (.aload_n 0, 1) := by decide +kernel
theorem dX7_part_47 : decode cX7_part 47 = .ok (.getfield 10, 3) := by decide +kernel
theorem dX7_part_50 : decode cX7_part 50 = .ok (.getfield 63, 3) := by decide +kernel
theorem dX7_part_53 : decode cX7_part 53 = .ok (.getfield 170, 3) := by decide +kernel
theorem dX7_part_56 : decode cX7_part 56 = .ok (.iload_n 1, 1) := by decide +kernel
theorem dX7_part_57 : decode cX7_part 57 = .ok (.iload_n 2, 1) := by decide +kernel
theorem dX7_part_58 : decode cX7_part 58 = .ok (.invokevirtual 155, 3) := by decide +kernel
theorem dX7_part_61 : decode cX7_part 61 = .ok (.goto 18, 3) := by decide +kernel
theorem dX7_part_64 : decode cX7_part 64 = .ok (.aload_n 0, 1) := by decide +kernel
theorem dX7_part_65 : decode cX7_part 65 = .ok (.getfield 10, 3) := by decide +kernel
theorem dX7_part_68 : decode cX7_part 68 = .ok (.getfield 63, 3) := by decide +kernel
theorem dX7_part_71 : decode cX7_part 71 = .ok (.getfield 173, 3) := by decide +kernel
theorem dX7_part_74 : decode cX7_part 74 = .ok (.iload_n 1, 1) := by decide +kernel
theorem dX7_part_75 : decode cX7_part 75 = .ok (.iload_n 2, 1) := by decide +kernel
theorem dX7_part_76 : decode cX7_part 76 = .ok (.invokevirtual 155, 3) := by decide +kernel
theorem dX7_part_79 : decode cX7_part 79 = .ok (.ireturn, 1) := by decide +kernel
theorem dX7_share_0 : decode cX7_share 0 = .ok (.aload_n 0, 1) := by decide +kernel
theorem dX7_share_1 : decode cX7_share 1 = .ok (.iload_n 1, 1) := by decide +kernel
theorem dX7_share_2 : decode cX7_share 2 = .ok (.invokevirtual 122, 3) := by decide +kernel
theorem dX7_share_5 : decode cX7_share 5 = .ok (.iload_n 2, 1) := by decide +kernel
theorem dX7_share_6 : decode cX7_share 6 = .ok (.iconst 0, 1) := by decide +kernel
theorem dX7_share_7 : decode cX7_share 7 = .ok (.iconst 3, 1) := by decide +kernel
theorem dX7_share_8 : decode cX7_share 8 = .ok (.invokestatic 59, 3) := by decide +kernel
theorem dX7_share_11 : decode cX7_share 11 = .ok (.iload_n 3, 1) := by decide +kernel
theorem dX7_share_12 : decode cX7_share 12 = .ok (.iconst 0, 1) := by decide +kernel
theorem dX7_share_13 : decode cX7_share 13 = .ok (.aload_n 0, 1) := by decide +kernel
theorem dX7_share_14 : decode cX7_share 14 = .ok (.getfield 10, 3) := by decide +kernel
theorem dX7_share_17 : decode cX7_share 17 = .ok (.getfield 63, 3) := by decide +kernel
theorem dX7_share_20 : decode cX7_share 20 = .ok (.iload_n 2, 1) := by decide +kernel
theorem dX7_share_21 : decode cX7_share 21 = .ok (.invokevirtual 176, 3) := by decide +kernel
theorem dX7_share_24 : decode cX7_share 24 = .ok (.iconst 1, 1) := by decide +kernel
theorem dX7_share_25 : decode cX7_share 25 = .ok (.isub, 1) := by decide +kernel
theorem dX7_share_26 : decode cX7_share 26 = .ok (.invokestatic 59, 3) := by decide +kernel
theorem dX7_share_29 : decode cX7_share 29 = .ok (.aload_n 0, 1) := by decide +kernel
theorem dX7_share_30 : decode cX7_share 30 = .ok (.getfield 10, 3) := by decide +kernel
theorem dX7_share_33 : decode cX7_share 33 = .ok (.getfield 63, 3) := by decide +kernel
theorem dX7_share_36 : decode cX7_share 36 = .ok (.iload_n 1, 1) := by decide +kernel
theorem dX7_share_37 : decode cX7_share 37 = .ok (.iload_n 2, 1) := by decide +kernel
theorem dX7_share_38 : decode cX7_share 38 = .ok (.iload_n 3, 1) := by decide +kernel
theorem dX7_share_39 : decode cX7_share 39 = .ok (.invokevirtual 179, 3) := by decide +kernel
theorem dX7_share_42 : decode cX7_share 42 = .ok (.ireturn, 1) := by decide +kernel
theorem dX7_greatest_0 : decode cX7_greatest 0 = .ok (.aload_n 0, 1) := by decide +kernel
theorem dX7_greatest_1 : decode cX7_greatest 1 = .ok (.iload_n 1, 1) := by decide +kernel
theorem dX7_greatest_2 : decode cX7_greatest 2 = .ok (.invokevirtual 122, 3) := by decide +kernel
theorem dX7_greatest_5 : decode cX7_greatest 5 = .ok (.iload_n 2, 1) := by decide +kernel
theorem dX7_greatest_6 : decode cX7_greatest 6 = .ok (.iconst 0, 1) := by decide +kernel
theorem dX7_greatest_7 : decode cX7_greatest 7 = .ok (.aload_n 0, 1) := by decide +kernel
theorem dX7_greatest_8 : decode cX7_greatest 8 = .ok (.getfield 10, 3) := by decide +kernel
theorem dX7_greatest_11 : decode cX7_greatest 11 = .ok (.getfield 63, 3) := by decide +kernel
theorem dX7_greatest_14 : decode cX7_greatest 14 = .ok (.iload_n 1, 1) := by decide +kernel
theorem dX7_greatest_15 : decode cX7_greatest 15 = .ok (.invokevirtual 141, 3) := by decide +kernel
theorem dX7_greatest_18 : decode cX7_greatest 18 = .ok (.iconst 1, 1) := by decide +kernel
theorem dX7_greatest_19 : decode cX7_greatest 19 = .ok (.isub, 1) := by decide +kernel
theorem dX7_greatest_20 : decode cX7_greatest 20 = .ok (.invokestatic 161, 3) := by decide +kernel
theorem dX7_greatest_23 : decode cX7_greatest 23 = .ok (.ifCond .ne 13, 3) := by decide +kernel
theorem dX7_greatest_26 : decode cX7_greatest 26 = .ok (.new 165, 3) := by decide +kernel
theorem dX7_greatest_29 : decode cX7_greatest 29 = .ok (.dup, 1) := by decide +kernel
theorem dX7_greatest_30 : decode cX7_greatest 30 = .ok (.ldc 183, 2) := by decide +kernel
theorem dX7_greatest_32 : decode cX7_greatest 32 = .ok (.invokespecial 169, 3) := by decide +kernel
theorem dX7_greatest_35 : decode cX7_greatest 35 = .ok (.athrow, 1) := by decide +kernel
theorem dX7_greatest_36 : decode cX7_greatest 36 = .ok (.aload_n 0, 1) := by decide +kernel
theorem dX7_greatest_37 : decode cX7_greatest 37 = .ok (.getfield 10, 3) := by decide +kernel
theorem dX7_greatest_40 : decode cX7_greatest 40 = .ok (.getfield 63, 3) := by decide +kernel
theorem dX7_greatest_43 : decode cX7_greatest 43 = .ok (.getfield 185, 3) := by decide +kernel
theorem dX7_greatest_46 : decode cX7_greatest 46 = .ok (.iload_n 1, 1) := by decide +kernel
theorem dX7_greatest_47 : decode cX7_greatest 47 = .ok (.iload_n 2, 1) := by decide +kernel
theorem dX7_greatest_48 : decode cX7_greatest 48 = .ok (.invokevirtual 188, 3) := by decide +kernel
theorem dX7_greatest_51 : decode cX7_greatest 51 = .ok (.ireturn, 1) := by decide +kernel
theorem dX7_meanVintage_0 : decode cX7_meanVintage 0 = .ok (.aload_n 0, 1) := by decide +kernel
theorem dX7_meanVintage_1 : decode cX7_meanVintage 1 = .ok (.iload_n 1, 1) := by decide +kernel
theorem dX7_meanVintage_2 : decode cX7_meanVintage 2 = .ok (.invokevirtual 122, 3) := by decide +kernel
theorem dX7_meanVintage_5 : decode cX7_meanVintage 5 = .ok (.aload_n 0, 1) := by decide +kernel
theorem dX7_meanVintage_6 : decode cX7_meanVintage 6 = .ok (.getfield 10, 3) := by decide +kernel
theorem dX7_meanVintage_9 : decode cX7_meanVintage 9 = .ok (.getfield 63, 3) := by decide +kernel
theorem dX7_meanVintage_12 : decode cX7_meanVintage 12 = .ok (.iload_n 1, 1) := by decide +kernel
theorem dX7_meanVintage_13 : decode cX7_meanVintage 13 = .ok (.invokevirtual 191, 3) := by decide +kernel
theorem dX7_meanVintage_16 : decode cX7_meanVintage 16 = .ok (.i2d, 1) := by decide +kernel
theorem dX7_meanVintage_17 : decode cX7_meanVintage 17 = .ok (.ldc2_w 194, 3) := by decide +kernel
theorem dX7_meanVintage_20 : decode cX7_meanVintage 20 = .ok (.ddiv, 1) := by decide +kernel
theorem dX7_meanVintage_21 : decode cX7_meanVintage 21 = .ok (.dreturn, 1) := by decide +kernel
theorem dX7_setLaw_0 : decode cX7_setLaw 0 = .ok (.iload_n 1, 1) := by decide +kernel
theorem dX7_setLaw_1 : decode cX7_setLaw 1 = .ok (.iconst 3, 1) := by decide +kernel
theorem dX7_setLaw_2 : decode cX7_setLaw 2 = .ok (.invokestatic 196, 3) := by decide +kernel
theorem dX7_setLaw_5 : decode cX7_setLaw 5 = .ok (.iload_n 2, 1) := by decide +kernel
theorem dX7_setLaw_6 : decode cX7_setLaw 6 = .ok (.sipush 500, 3) := by decide +kernel
theorem dX7_setLaw_9 : decode cX7_setLaw 9 = .ok (.sipush 1000, 3) := by decide +kernel
theorem dX7_setLaw_12 : decode cX7_setLaw 12 = .ok (.invokestatic 59, 3) := by decide +kernel
theorem dX7_setLaw_15 : decode cX7_setLaw 15 = .ok (.aload_n 0, 1) := by decide +kernel
theorem dX7_setLaw_16 : decode cX7_setLaw 16 = .ok (.getfield 22, 3) := by decide +kernel
theorem dX7_setLaw_19 : decode cX7_setLaw 19 = .ok (.aload_n 0, 1) := by decide +kernel
theorem dX7_setLaw_20 : decode cX7_setLaw 20 = .ok (.getfield 10, 3) := by decide +kernel
theorem dX7_setLaw_23 : decode cX7_setLaw 23 = .ok (.invokevirtual 82, 3) := by decide +kernel
theorem dX7_setLaw_26 : decode cX7_setLaw 26 = .ok (.aload_n 0, 1) := by decide +kernel
theorem dX7_setLaw_27 : decode cX7_setLaw 27 = .ok (.getfield 10, 3) := by decide +kernel
theorem dX7_setLaw_30 : decode cX7_setLaw 30 = .ok (.getfield 199, 3) := by decide +kernel
theorem dX7_setLaw_33 : decode cX7_setLaw 33 = .ok (.iconst 0, 1) := by decide +kernel
theorem dX7_setLaw_34 : decode cX7_setLaw 34 = .ok (.iload_n 1, 1) := by decide +kernel
theorem dX7_setLaw_35 : decode cX7_setLaw 35 = .ok (.invokevirtual 155, 3) := by decide +kernel
theorem dX7_setLaw_38 : decode cX7_setLaw 38 = .ok (.istore_n 3, 1) := by decide +kernel
theorem dX7_setLaw_39 : decode cX7_setLaw 39 = .ok (.aload_n 0, 1) := by decide +kernel
theorem dX7_setLaw_40 : decode cX7_setLaw 40 = .ok (.getfield 10, 3) := by decide +kernel
theorem dX7_setLaw_43 : decode cX7_setLaw 43 = .ok (.getfield 199, 3) := by decide +kernel
theorem dX7_setLaw_46 : decode cX7_setLaw 46 = .ok (.iconst 0, 1) := by decide +kernel
theorem dX7_setLaw_47 : decode cX7_setLaw 47 = .ok (.iload_n 1, 1) := by decide +kernel
theorem dX7_setLaw_48 : decode cX7_setLaw 48 = .ok (.iload_n 2, 1) := by decide +kernel
theorem dX7_setLaw_49 : decode cX7_setLaw 49 = .ok (.invokevirtual 202, 3) := by decide +kernel
theorem dX7_setLaw_52 : decode cX7_setLaw 52 = .ok (.iload_n 3, 1) := by decide +kernel
theorem dX7_setLaw_53 : decode cX7_setLaw 53 = .ok (.ireturn, 1) := by decide +kernel
theorem dX7_bottle_0 : decode cX7_bottle 0 = .ok (.aload_n 0, 1) := by decide +kernel
theorem dX7_bottle_1 : decode cX7_bottle 1 = .ok (.iload_n 1, 1) := by decide +kernel
theorem dX7_bottle_2 : decode cX7_bottle 2 = .ok (.invokevirtual 122, 3) := by decide +kernel
theorem dX7_bottle_5 : decode cX7_bottle 5 = .ok (.iload_n 2, 1) := by decide +kernel
theorem dX7_bottle_6 : decode cX7_bottle 6 = .ok (.iconst 1, 1) := by decide +kernel
theorem dX7_bottle_7 : decode cX7_bottle 7 = .ok (.sipush 3333, 3) := by decide +kernel
theorem dX7_bottle_10 : decode cX7_bottle 10 = .ok (.invokestatic 59, 3) := by decide +kernel
theorem dX7_bottle_13 : decode cX7_bottle 13 = .ok (.iload_n 3, 1) := by decide +kernel
theorem dX7_bottle_14 : decode cX7_bottle 14 = .ok (.iload 4, 2) := by decide +kernel
theorem dX7_bottle_16 : decode cX7_bottle 16 = .ok (.iload 5, 2) := by decide +kernel
theorem dX7_bottle_18 : decode cX7_bottle 18 = .ok (.iload 6, 2) := by decide +kernel
theorem dX7_bottle_20 : decode cX7_bottle 20 = .ok (.invokestatic 205, 3) := by decide +kernel
theorem dX7_bottle_23 : decode cX7_bottle 23 = .ok (.aload_n 0, 1) := by decide +kernel
theorem dX7_bottle_24 : decode cX7_bottle 24 = .ok (.aload_n 0, 1) := by decide +kernel
theorem dX7_bottle_25 : decode cX7_bottle 25 = .ok (.getfield 10, 3) := by decide +kernel
theorem dX7_bottle_28 : decode cX7_bottle 28 = .ok (.iload_n 1, 1) := by decide +kernel
theorem dX7_bottle_29 : decode cX7_bottle 29 = .ok (.iload_n 2, 1) := by decide +kernel
theorem dX7_bottle_30 : decode cX7_bottle 30 = .ok (.iload_n 3, 1) := by decide +kernel
theorem dX7_bottle_31 : decode cX7_bottle 31 = .ok (.iload 4, 2) := by decide +kernel
theorem dX7_bottle_33 : decode cX7_bottle 33 = .ok (.iload 5, 2) := by decide +kernel
theorem dX7_bottle_35 : decode cX7_bottle 35 = .ok (.iload 6, 2) := by decide +kernel
theorem dX7_bottle_37 : decode cX7_bottle 37 = .ok (.invokevirtual 209, 3) := by decide +kernel
theorem dX7_bottle_40 : decode cX7_bottle 40 = .ok (.invokevirtual 114, 3) := by decide +kernel
theorem dX7_bottle_43 : decode cX7_bottle 43 = .ok (.aload_n 0, 1) := by decide +kernel
theorem dX7_bottle_44 : decode cX7_bottle 44 = .ok (.getfield 22, 3) := by decide +kernel
theorem dX7_bottle_47 : decode cX7_bottle 47 = .ok (.aload_n 0, 1) := by decide +kernel
theorem dX7_bottle_48 : decode cX7_bottle 48 = .ok (.getfield 10, 3) := by decide +kernel
theorem dX7_bottle_51 : decode cX7_bottle 51 = .ok (.invokevirtual 82, 3) := by decide +kernel
theorem dX7_bottle_54 : decode cX7_bottle 54 = .ok (.aload_n 0, 1) := by decide +kernel
theorem dX7_bottle_55 : decode cX7_bottle 55 = .ok (.getfield 10, 3) := by decide +kernel
theorem dX7_bottle_58 : decode cX7_bottle 58 = .ok (.getfield 63, 3) := by decide +kernel
theorem dX7_bottle_61 : decode cX7_bottle 61 = .ok (.iload_n 1, 1) := by decide +kernel
theorem dX7_bottle_62 : decode cX7_bottle 62 = .ok (.iload_n 2, 1) := by decide +kernel
theorem dX7_bottle_63 : decode cX7_bottle 63 = .ok (.iconst 3, 1) := by decide +kernel
theorem dX7_bottle_64 : decode cX7_bottle 64 = .ok (.imul, 1) := by decide +kernel
theorem dX7_bottle_65 : decode cX7_bottle 65 = .ok (.invokevirtual 135, 3) := by decide +kernel
theorem dX7_bottle_68 : decode cX7_bottle 68 = .ok (.aload_n 0, 1) := by decide +kernel
theorem dX7_bottle_69 : decode cX7_bottle 69 = .ok (.getfield 10, 3) := by decide +kernel
theorem dX7_bottle_72 : decode cX7_bottle 72 = .ok (.getfield 213, 3) := by decide +kernel
theorem dX7_bottle_75 : decode cX7_bottle 75 = .ok (.iload_n 1, 1) := by decide +kernel
theorem dX7_bottle_76 : decode cX7_bottle 76 = .ok (.iload_n 2, 1) := by decide +kernel
theorem dX7_bottle_77 : decode cX7_bottle 77 = .ok (.invokevirtual 217, 3) := by decide +kernel
theorem dX7_bottle_80 : decode cX7_bottle 80 = .ok (.istore 7, 2) := by decide +kernel
theorem dX7_bottle_82 : decode cX7_bottle 82 = .ok (.aload_n 0, 1) := by decide +kernel
theorem dX7_bottle_83 : decode cX7_bottle 83 = .ok (.getfield 10, 3) := by decide +kernel
theorem dX7_bottle_86 : decode cX7_bottle 86 = .ok (.getfield 213, 3) := by decide +kernel
theorem dX7_bottle_89 : decode cX7_bottle 89 = .ok (.iload 7, 2) := by decide +kernel
theorem dX7_bottle_91 : decode cX7_bottle 91 = .ok (.iload_n 3, 1) := by decide +kernel
theorem dX7_bottle_92 : decode cX7_bottle 92 = .ok (.iload 4, 2) := by decide +kernel
theorem dX7_bottle_94 : decode cX7_bottle 94 = .ok (.iload 5, 2) := by decide +kernel
theorem dX7_bottle_96 : decode cX7_bottle 96 = .ok (.iload 6, 2) := by decide +kernel
theorem dX7_bottle_98 : decode cX7_bottle 98 = .ok (.invokevirtual 222, 3) := by decide +kernel
theorem dX7_bottle_101 : decode cX7_bottle 101 = .ok (.iload 7, 2) := by decide +kernel
theorem dX7_bottle_103 : decode cX7_bottle 103 = .ok (.ireturn, 1) := by decide +kernel
theorem dX7_forbids_0 : decode cX7_forbids 0 = .ok (.aload_n 0, 1) := by decide +kernel
theorem dX7_forbids_1 : decode cX7_forbids 1 = .ok (.iload_n 1, 1) := by decide +kernel
theorem dX7_forbids_2 : decode cX7_forbids 2 = .ok (.invokevirtual 122, 3) := by decide +kernel
theorem dX7_forbids_5 : decode cX7_forbids 5 = .ok (.iload_n 2, 1) := by decide +kernel
theorem dX7_forbids_6 : decode cX7_forbids 6 = .ok (.iload_n 3, 1) := by decide +kernel
theorem dX7_forbids_7 : decode cX7_forbids 7 = .ok (.iload 4, 2) := by decide +kernel
theorem dX7_forbids_9 : decode cX7_forbids 9 = .ok (.iload 5, 2) := by decide +kernel
theorem dX7_forbids_11 : decode cX7_forbids 11 = .ok (.invokestatic 205, 3) := by decide +kernel
theorem dX7_forbids_14 : decode cX7_forbids 14 = .ok (.aload_n 0, 1) := by decide +kernel
theorem dX7_forbids_15 : decode cX7_forbids 15 = .ok (.getfield 10, 3) := by decide +kernel
theorem dX7_forbids_18 : decode cX7_forbids 18 = .ok (.iload_n 1, 1) := by decide +kernel
theorem dX7_forbids_19 : decode cX7_forbids 19 = .ok (.iload_n 2, 1) := by decide +kernel
theorem dX7_forbids_20 : decode cX7_forbids 20 = .ok (.iload_n 3, 1) := by decide +kernel
theorem dX7_forbids_21 : decode cX7_forbids 21 = .ok (.iload 4, 2) := by decide +kernel
theorem dX7_forbids_23 : decode cX7_forbids 23 = .ok (.iload 5, 2) := by decide +kernel
theorem dX7_forbids_25 : decode cX7_forbids 25 = .ok (.invokevirtual 226, 3) := by decide +kernel
theorem dX7_forbids_28 : decode cX7_forbids 28 = .ok (.ireturn, 1) := by decide +kernel
theorem dX7_bottling_0 : decode cX7_bottling 0 = .ok (.iload_n 1, 1) := by decide +kernel
theorem dX7_bottling_1 : decode cX7_bottling 1 = .ok (.aload_n 0, 1) := by decide +kernel
theorem dX7_bottling_2 : decode cX7_bottling 2 = .ok (.getfield 10, 3) := by decide +kernel
theorem dX7_bottling_5 : decode cX7_bottling 5 = .ok (.getfield 213, 3) := by decide +kernel
theorem dX7_bottling_8 : decode cX7_bottling 8 = .ok (.getfield 230, 3) := by decide +kernel
theorem dX7_bottling_11 : decode cX7_bottling 11 = .ok (.invokestatic 196, 3) := by decide +kernel
theorem dX7_bottling_14 : decode cX7_bottling 14 = .ok (.iload_n 2, 1) := by decide +kernel
theorem dX7_bottling_15 : decode cX7_bottling 15 = .ok (.iconst 0, 1) := by decide +kernel
theorem dX7_bottling_16 : decode cX7_bottling 16 = .ok (.bipush 8, 2) := by decide +kernel
theorem dX7_bottling_18 : decode cX7_bottling 18 = .ok (.invokestatic 59, 3) := by decide +kernel
theorem dX7_bottling_21 : decode cX7_bottling 21 = .ok (.iload_n 2, 1) := by decide +kernel
theorem dX7_bottling_22 : decode cX7_bottling 22 = .ok (.bipush 7, 2) := by decide +kernel
theorem dX7_bottling_24 : decode cX7_bottling 24 = .ok (.if_icmp .ne 19, 3) := by decide +kernel
theorem dX7_bottling_27 : decode cX7_bottling 27 = .ok (.aload_n 0, 1) := by decide +kernel
theorem dX7_bottling_28 : decode cX7_bottling 28 = .ok (.getfield 10, 3) := by decide +kernel
theorem dX7_bottling_31 : decode cX7_bottling 31 = .ok (.getfield 231, 3) := by decide +kernel
theorem dX7_bottling_34 : decode cX7_bottling 34 = .ok (.iload_n 1, 1) := by decide +kernel
theorem dX7_bottling_35 : decode cX7_bottling 35 = .ok (.aload_n 0, 1) := by decide +kernel
theorem dX7_bottling_36 : decode cX7_bottling 36 = .ok (.getfield 38, 3) := by decide +kernel
theorem dX7_bottling_39 : decode cX7_bottling 39 = .ok (.invokevirtual 235, 3) := by decide +kernel
theorem dX7_bottling_42 : decode cX7_bottling 42 = .ok (.ireturn, 1) := by decide +kernel
theorem dX7_bottling_43 : decode cX7_bottling 43 = .ok (.iload_n 2, 1) := by decide +kernel
theorem dX7_bottling_44 : decode cX7_bottling 44 = .ok (.bipush 8, 2) := by decide +kernel
theorem dX7_bottling_46 : decode cX7_bottling 46 = .ok (.if_icmp .ne 20, 3) := by decide +kernel
theorem dX7_bottling_49 : decode cX7_bottling 49 = .ok (.aload_n 0, 1) := by decide +kernel
theorem dX7_bottling_50 : decode cX7_bottling 50 = .ok (.getfield 10, 3) := by decide +kernel
theorem dX7_bottling_53 : decode cX7_bottling 53 = .ok (.iload_n 1, 1) := by decide +kernel
theorem dX7_bottling_54 : decode cX7_bottling 54 = .ok (.invokevirtual 241, 3) := by decide +kernel
theorem dX7_bottling_57 : decode cX7_bottling 57 = .ok (.ifCond .eq 7, 3) := by decide +kernel
theorem dX7_bottling_60 : decode cX7_bottling 60 = .ok (.iconst 1, 1) := by decide +kernel
theorem dX7_bottling_61 : decode cX7_bottling 61 = .ok (.goto 4, 3) := by decide +kernel
theorem dX7_bottling_64 : decode cX7_bottling 64 = .ok (.iconst 0, 1) := by decide +kernel
theorem dX7_bottling_65 : decode cX7_bottling 65 = .ok (.ireturn, 1) := by decide +kernel
theorem dX7_bottling_66 : decode cX7_bottling 66 = .ok (.aload_n 0, 1) := by decide +kernel
theorem dX7_bottling_67 : decode cX7_bottling 67 = .ok (.getfield 10, 3) := by decide +kernel
theorem dX7_bottling_70 : decode cX7_bottling 70 = .ok (.getfield 213, 3) := by decide +kernel
theorem dX7_bottling_73 : decode cX7_bottling 73 = .ok (.getfield 245, 3) := by decide +kernel
theorem dX7_bottling_76 : decode cX7_bottling 76 = .ok (.iload_n 1, 1) := by decide +kernel
theorem dX7_bottling_77 : decode cX7_bottling 77 = .ok (.iload_n 2, 1) := by decide +kernel
theorem dX7_bottling_78 : decode cX7_bottling 78 = .ok (.invokevirtual 155, 3) := by decide +kernel
theorem dX7_bottling_81 : decode cX7_bottling 81 = .ok (.ireturn, 1) := by decide +kernel
theorem dX7_reason_0 : decode cX7_reason 0 = .ok (.aload_n 0, 1) := by decide +kernel
theorem dX7_reason_1 : decode cX7_reason 1 = .ok (.getfield 52, 3) := by decide +kernel
theorem dX7_reason_4 : decode cX7_reason 4 = .ok (.iconst (-1), 1) := by decide +kernel
theorem dX7_reason_5 : decode cX7_reason 5 = .ok (.if_icmp .ne 13, 3) := by decide +kernel
theorem dX7_reason_8 : decode cX7_reason 8 = .ok (.new 165, 3) := by decide +kernel
theorem dX7_reason_11 : decode cX7_reason 11 = .ok (.dup, 1) := by decide +kernel
theorem dX7_reason_12 : decode cX7_reason 12 = .ok (.ldc 246, 2) := by decide +kernel
theorem dX7_reason_14 : decode cX7_reason 14 = .ok (.invokespecial 169, 3) := by decide +kernel
theorem dX7_reason_17 : decode cX7_reason 17 = .ok (.athrow, 1) := by decide +kernel
theorem dX7_reason_18 : decode cX7_reason 18 = .ok (.aload_n 0, 1) := by decide +kernel
theorem dX7_reason_19 : decode cX7_reason 19 = .ok (.getfield 52, 3) := by decide +kernel
theorem dX7_reason_22 : decode cX7_reason 22 = .ok (.ireturn, 1) := by decide +kernel
theorem dX7_addCustomer_0 : decode cX7_addCustomer 0 = .ok (.iload_n 1, 1) := by decide +kernel
theorem dX7_addCustomer_1 : decode cX7_addCustomer 1 = .ok (.iconst 0, 1) := by decide +kernel
theorem dX7_addCustomer_2 : decode cX7_addCustomer 2 = .ok (.iconst 2, 1) := by decide +kernel
theorem dX7_addCustomer_3 : decode cX7_addCustomer 3 = .ok (.invokestatic 59, 3) := by decide +kernel
theorem dX7_addCustomer_6 : decode cX7_addCustomer 6 = .ok (.aload_n 0, 1) := by decide +kernel
theorem dX7_addCustomer_7 : decode cX7_addCustomer 7 = .ok (.getfield 10, 3) := by decide +kernel
theorem dX7_addCustomer_10 : decode cX7_addCustomer 10 = .ok (.getfield 231, 3) := by decide +kernel
theorem dX7_addCustomer_13 : decode cX7_addCustomer 13 = .ok (.getfield 248, 3) := by decide +kernel
theorem dX7_addCustomer_16 : decode cX7_addCustomer 16 = .ok (.bipush 8, 2) := by decide +kernel
theorem dX7_addCustomer_18 : decode cX7_addCustomer 18 = .ok (.if_icmp .lt 13, 3) := by decide +kernel
theorem dX7_addCustomer_21 : decode cX7_addCustomer 21 = .ok (.new 75, 3) := by decide +kernel
theorem dX7_addCustomer_24 : decode cX7_addCustomer 24 = .ok (.dup, 1) := by decide +kernel
theorem dX7_addCustomer_25 : decode cX7_addCustomer 25 = .ok (.ldc 249, 2) := by decide +kernel
theorem dX7_addCustomer_27 : decode cX7_addCustomer 27 = .ok (.invokespecial 79, 3) := by decide +kernel
theorem dX7_addCustomer_30 : decode cX7_addCustomer 30 = .ok (.athrow, 1) := by decide +kernel
theorem dX7_addCustomer_31 : decode cX7_addCustomer 31 = .ok (.aload_n 0, 1) := by decide +kernel
theorem dX7_addCustomer_32 : decode cX7_addCustomer 32 = .ok (.getfield 22, 3) := by decide +kernel
theorem dX7_addCustomer_35 : decode cX7_addCustomer 35 = .ok (.aload_n 0, 1) := by decide +kernel
theorem dX7_addCustomer_36 : decode cX7_addCustomer 36 = .ok (.getfield 10, 3) := by decide +kernel
theorem dX7_addCustomer_39 : decode cX7_addCustomer 39 = .ok (.invokevirtual 82, 3) := by decide +kernel
theorem dX7_addCustomer_42 : decode cX7_addCustomer 42 = .ok (.aload_n 0, 1) := by decide +kernel
theorem dX7_addCustomer_43 : decode cX7_addCustomer 43 = .ok (.getfield 10, 3) := by decide +kernel
theorem dX7_addCustomer_46 : decode cX7_addCustomer 46 = .ok (.getfield 231, 3) := by decide +kernel
theorem dX7_addCustomer_49 : decode cX7_addCustomer 49 = .ok (.iload_n 1, 1) := by decide +kernel
theorem dX7_addCustomer_50 : decode cX7_addCustomer 50 = .ok (.invokevirtual 251, 3) := by decide +kernel
theorem dX7_addCustomer_53 : decode cX7_addCustomer 53 = .ok (.ireturn, 1) := by decide +kernel
theorem dX7_wish_0 : decode cX7_wish 0 = .ok (.aload_n 0, 1) := by decide +kernel
theorem dX7_wish_1 : decode cX7_wish 1 = .ok (.iload_n 1, 1) := by decide +kernel
theorem dX7_wish_2 : decode cX7_wish 2 = .ok (.iload_n 2, 1) := by decide +kernel
theorem dX7_wish_3 : decode cX7_wish 3 = .ok (.invokevirtual 254, 3) := by decide +kernel
theorem dX7_wish_6 : decode cX7_wish 6 = .ok (.iload_n 3, 1) := by decide +kernel
theorem dX7_wish_7 : decode cX7_wish 7 = .ok (.iconst 0, 1) := by decide +kernel
theorem dX7_wish_8 : decode cX7_wish 8 = .ok (.sipush 3333, 3) := by decide +kernel
theorem dX7_wish_11 : decode cX7_wish 11 = .ok (.invokestatic 59, 3) := by decide +kernel
theorem dX7_wish_14 : decode cX7_wish 14 = .ok (.aload_n 0, 1) := by decide +kernel
theorem dX7_wish_15 : decode cX7_wish 15 = .ok (.getfield 22, 3) := by decide +kernel
theorem dX7_wish_18 : decode cX7_wish 18 = .ok (.aload_n 0, 1) := by decide +kernel
theorem dX7_wish_19 : decode cX7_wish 19 = .ok (.getfield 10, 3) := by decide +kernel
theorem dX7_wish_22 : decode cX7_wish 22 = .ok (.invokevirtual 82, 3) := by decide +kernel
theorem dX7_wish_25 : decode cX7_wish 25 = .ok (.aload_n 0, 1) := by decide +kernel
theorem dX7_wish_26 : decode cX7_wish 26 = .ok (.getfield 10, 3) := by decide +kernel
theorem dX7_wish_29 : decode cX7_wish 29 = .ok (.getfield 231, 3) := by decide +kernel
theorem dX7_wish_32 : decode cX7_wish 32 = .ok (.getfield 257, 3) := by decide +kernel
theorem dX7_wish_35 : decode cX7_wish 35 = .ok (.iload_n 1, 1) := by decide +kernel
theorem dX7_wish_36 : decode cX7_wish 36 = .ok (.iload_n 2, 1) := by decide +kernel
theorem dX7_wish_37 : decode cX7_wish 37 = .ok (.invokevirtual 155, 3) := by decide +kernel
theorem dX7_wish_40 : decode cX7_wish 40 = .ok (.istore 4, 2) := by decide +kernel
theorem dX7_wish_42 : decode cX7_wish 42 = .ok (.aload_n 0, 1) := by decide +kernel
theorem dX7_wish_43 : decode cX7_wish 43 = .ok (.getfield 10, 3) := by decide +kernel
theorem dX7_wish_46 : decode cX7_wish 46 = .ok (.getfield 231, 3) := by decide +kernel
theorem dX7_wish_49 : decode cX7_wish 49 = .ok (.getfield 257, 3) := by decide +kernel
theorem dX7_wish_52 : decode cX7_wish 52 = .ok (.iload_n 1, 1) := by decide +kernel
theorem dX7_wish_53 : decode cX7_wish 53 = .ok (.iload_n 2, 1) := by decide +kernel
theorem dX7_wish_54 : decode cX7_wish 54 = .ok (.iload_n 3, 1) := by decide +kernel
theorem dX7_wish_55 : decode cX7_wish 55 = .ok (.invokevirtual 202, 3) := by decide +kernel
theorem dX7_wish_58 : decode cX7_wish 58 = .ok (.iload 4, 2) := by decide +kernel
theorem dX7_wish_60 : decode cX7_wish 60 = .ok (.ireturn, 1) := by decide +kernel
theorem dX7_serve_0 : decode cX7_serve 0 = .ok (.iload_n 1, 1) := by decide +kernel
theorem dX7_serve_1 : decode cX7_serve 1 = .ok (.aload_n 0, 1) := by decide +kernel
theorem dX7_serve_2 : decode cX7_serve 2 = .ok (.getfield 10, 3) := by decide +kernel
theorem dX7_serve_5 : decode cX7_serve 5 = .ok (.getfield 213, 3) := by decide +kernel
theorem dX7_serve_8 : decode cX7_serve 8 = .ok (.getfield 230, 3) := by decide +kernel
theorem dX7_serve_11 : decode cX7_serve 11 = .ok (.invokestatic 196, 3) := by decide +kernel
theorem dX7_serve_14 : decode cX7_serve 14 = .ok (.aload_n 0, 1) := by decide +kernel
theorem dX7_serve_15 : decode cX7_serve 15 = .ok (.getfield 22, 3) := by decide +kernel
theorem dX7_serve_18 : decode cX7_serve 18 = .ok (.aload_n 0, 1) := by decide +kernel
theorem dX7_serve_19 : decode cX7_serve 19 = .ok (.getfield 10, 3) := by decide +kernel
theorem dX7_serve_22 : decode cX7_serve 22 = .ok (.invokevirtual 82, 3) := by decide +kernel
theorem dX7_serve_25 : decode cX7_serve 25 = .ok (.aload_n 0, 1) := by decide +kernel
theorem dX7_serve_26 : decode cX7_serve 26 = .ok (.getfield 10, 3) := by decide +kernel
theorem dX7_serve_29 : decode cX7_serve 29 = .ok (.getfield 213, 3) := by decide +kernel
theorem dX7_serve_32 : decode cX7_serve 32 = .ok (.iload_n 1, 1) := by decide +kernel
theorem dX7_serve_33 : decode cX7_serve 33 = .ok (.invokevirtual 260, 3) := by decide +kernel
theorem dX7_serve_36 : decode cX7_serve 36 = .ok (.istore_n 2, 1) := by decide +kernel
theorem dX7_serve_37 : decode cX7_serve 37 = .ok (.aload_n 0, 1) := by decide +kernel
theorem dX7_serve_38 : decode cX7_serve 38 = .ok (.getfield 10, 3) := by decide +kernel
theorem dX7_serve_41 : decode cX7_serve 41 = .ok (.getfield 231, 3) := by decide +kernel
theorem dX7_serve_44 : decode cX7_serve 44 = .ok (.iload_n 1, 1) := by decide +kernel
theorem dX7_serve_45 : decode cX7_serve 45 = .ok (.iload_n 2, 1) := by decide +kernel
theorem dX7_serve_46 : decode cX7_serve 46 = .ok (.aload_n 0, 1) := by decide +kernel
theorem dX7_serve_47 : decode cX7_serve 47 = .ok (.getfield 38, 3) := by decide +kernel
theorem dX7_serve_50 : decode cX7_serve 50 = .ok (.invokevirtual 263, 3) := by decide +kernel
theorem dX7_serve_53 : decode cX7_serve 53 = .ok (.istore_n 3, 1) := by decide +kernel
theorem dX7_serve_54 : decode cX7_serve 54 = .ok (.aload_n 0, 1) := by decide +kernel
theorem dX7_serve_55 : decode cX7_serve 55 = .ok (.getfield 10, 3) := by decide +kernel
theorem dX7_serve_58 : decode cX7_serve 58 = .ok (.getfield 213, 3) := by decide +kernel
theorem dX7_serve_61 : decode cX7_serve 61 = .ok (.iload_n 1, 1) := by decide +kernel
theorem dX7_serve_62 : decode cX7_serve 62 = .ok (.iload_n 3, 1) := by decide +kernel
theorem dX7_serve_63 : decode cX7_serve 63 = .ok (.ineg, 1) := by decide +kernel
theorem dX7_serve_64 : decode cX7_serve 64 = .ok (.invokevirtual 267, 3) := by decide +kernel
theorem dX7_serve_67 : decode cX7_serve 67 = .ok (.iload_n 3, 1) := by decide +kernel
theorem dX7_serve_68 : decode cX7_serve 68 = .ok (.ireturn, 1) := by decide +kernel
theorem dX7_giveBack_0 : decode cX7_giveBack 0 = .ok (.aload_n 0, 1) := by decide +kernel
theorem dX7_giveBack_1 : decode cX7_giveBack 1 = .ok (.iload_n 1, 1) := by decide +kernel
theorem dX7_giveBack_2 : decode cX7_giveBack 2 = .ok (.iload_n 2, 1) := by decide +kernel
theorem dX7_giveBack_3 : decode cX7_giveBack 3 = .ok (.invokevirtual 254, 3) := by decide +kernel
theorem dX7_giveBack_6 : decode cX7_giveBack 6 = .ok (.iload_n 3, 1) := by decide +kernel
theorem dX7_giveBack_7 : decode cX7_giveBack 7 = .ok (.iconst 1, 1) := by decide +kernel
theorem dX7_giveBack_8 : decode cX7_giveBack 8 = .ok (.sipush 3333, 3) := by decide +kernel
theorem dX7_giveBack_11 : decode cX7_giveBack 11 = .ok (.aload_n 0, 1) := by decide +kernel
theorem dX7_giveBack_12 : decode cX7_giveBack 12 = .ok (.getfield 10, 3) := by decide +kernel
theorem dX7_giveBack_15 : decode cX7_giveBack 15 = .ok (.getfield 231, 3) := by decide +kernel
theorem dX7_giveBack_18 : decode cX7_giveBack 18 = .ok (.getfield 270, 3) := by decide +kernel
theorem dX7_giveBack_21 : decode cX7_giveBack 21 = .ok (.iload_n 1, 1) := by decide +kernel
theorem dX7_giveBack_22 : decode cX7_giveBack 22 = .ok (.iload_n 2, 1) := by decide +kernel
theorem dX7_giveBack_23 : decode cX7_giveBack 23 = .ok (.invokevirtual 155, 3) := by decide +kernel
theorem dX7_giveBack_26 : decode cX7_giveBack 26 = .ok (.invokestatic 129, 3) := by decide +kernel
theorem dX7_giveBack_29 : decode cX7_giveBack 29 = .ok (.invokestatic 59, 3) := by decide +kernel
theorem dX7_giveBack_32 : decode cX7_giveBack 32 = .ok (.aload_n 0, 1) := by decide +kernel
theorem dX7_giveBack_33 : decode cX7_giveBack 33 = .ok (.getfield 22, 3) := by decide +kernel
theorem dX7_giveBack_36 : decode cX7_giveBack 36 = .ok (.aload_n 0, 1) := by decide +kernel
theorem dX7_giveBack_37 : decode cX7_giveBack 37 = .ok (.getfield 10, 3) := by decide +kernel
theorem dX7_giveBack_40 : decode cX7_giveBack 40 = .ok (.invokevirtual 82, 3) := by decide +kernel
theorem dX7_giveBack_43 : decode cX7_giveBack 43 = .ok (.aload_n 0, 1) := by decide +kernel
theorem dX7_giveBack_44 : decode cX7_giveBack 44 = .ok (.getfield 10, 3) := by decide +kernel
theorem dX7_giveBack_47 : decode cX7_giveBack 47 = .ok (.getfield 213, 3) := by decide +kernel
theorem dX7_giveBack_50 : decode cX7_giveBack 50 = .ok (.iload_n 2, 1) := by decide +kernel
theorem dX7_giveBack_51 : decode cX7_giveBack 51 = .ok (.iload_n 3, 1) := by decide +kernel
theorem dX7_giveBack_52 : decode cX7_giveBack 52 = .ok (.invokevirtual 267, 3) := by decide +kernel
theorem dX7_giveBack_55 : decode cX7_giveBack 55 = .ok (.aload_n 0, 1) := by decide +kernel
theorem dX7_giveBack_56 : decode cX7_giveBack 56 = .ok (.getfield 10, 3) := by decide +kernel
theorem dX7_giveBack_59 : decode cX7_giveBack 59 = .ok (.getfield 231, 3) := by decide +kernel
theorem dX7_giveBack_62 : decode cX7_giveBack 62 = .ok (.iload_n 1, 1) := by decide +kernel
theorem dX7_giveBack_63 : decode cX7_giveBack 63 = .ok (.iload_n 2, 1) := by decide +kernel
theorem dX7_giveBack_64 : decode cX7_giveBack 64 = .ok (.iload_n 3, 1) := by decide +kernel
theorem dX7_giveBack_65 : decode cX7_giveBack 65 = .ok (.invokevirtual 273, 3) := by decide +kernel
theorem dX7_giveBack_68 : decode cX7_giveBack 68 = .ok (.ireturn, 1) := by decide +kernel
theorem dX7_holds_0 : decode cX7_holds 0 = .ok (.aload_n 0, 1) := by decide +kernel
theorem dX7_holds_1 : decode cX7_holds 1 = .ok (.iload_n 1, 1) := by decide +kernel
theorem dX7_holds_2 : decode cX7_holds 2 = .ok (.iload_n 2, 1) := by decide +kernel
theorem dX7_holds_3 : decode cX7_holds 3 = .ok (.invokevirtual 254, 3) := by decide +kernel
theorem dX7_holds_6 : decode cX7_holds 6 = .ok (.iload_n 3, 1) := by decide +kernel
theorem dX7_holds_7 : decode cX7_holds 7 = .ok (.iconst 0, 1) := by decide +kernel
theorem dX7_holds_8 : decode cX7_holds 8 = .ok (.iconst 2, 1) := by decide +kernel
theorem dX7_holds_9 : decode cX7_holds 9 = .ok (.invokestatic 59, 3) := by decide +kernel
theorem dX7_holds_12 : decode cX7_holds 12 = .ok (.iload_n 3, 1) := by decide +kernel
theorem dX7_holds_13 : decode cX7_holds 13 = .ok (.ifCond .ne 19, 3) := by decide +kernel
theorem dX7_holds_16 : decode cX7_holds 16 = .ok (.aload_n 0, 1) := by decide +kernel
theorem dX7_holds_17 : decode cX7_holds 17 = .ok (.getfield 10, 3) := by decide +kernel
theorem dX7_holds_20 : decode cX7_holds 20 = .ok (.getfield 231, 3) := by decide +kernel
theorem dX7_holds_23 : decode cX7_holds 23 = .ok (.getfield 270, 3) := by decide +kernel
theorem dX7_holds_26 : decode cX7_holds 26 = .ok (.iload_n 1, 1) := by decide +kernel
theorem dX7_holds_27 : decode cX7_holds 27 = .ok (.iload_n 2, 1) := by decide +kernel
theorem dX7_holds_28 : decode cX7_holds 28 = .ok (.invokevirtual 155, 3) := by decide +kernel
theorem dX7_holds_31 : decode cX7_holds 31 = .ok (.ireturn, 1) := by decide +kernel
theorem dX7_holds_32 : decode cX7_holds 32 = .ok (.iload_n 3, 1) := by decide +kernel
theorem dX7_holds_33 : decode cX7_holds 33 = .ok (.iconst 1, 1) := by decide +kernel
theorem dX7_holds_34 : decode cX7_holds 34 = .ok (.if_icmp .ne 19, 3) := by decide +kernel
theorem dX7_holds_37 : decode cX7_holds 37 = .ok (.aload_n 0, 1) := by decide +kernel
theorem dX7_holds_38 : decode cX7_holds 38 = .ok (.getfield 10, 3) := by decide +kernel
theorem dX7_holds_41 : decode cX7_holds 41 = .ok (.getfield 231, 3) := by decide +kernel
theorem dX7_holds_44 : decode cX7_holds 44 = .ok (.getfield 257, 3) := by decide +kernel
theorem dX7_holds_47 : decode cX7_holds 47 = .ok (.iload_n 1, 1) := by decide +kernel
theorem dX7_holds_48 : decode cX7_holds 48 = .ok (.iload_n 2, 1) := by decide +kernel
theorem dX7_holds_49 : decode cX7_holds 49 = .ok (.invokevirtual 155, 3) := by decide +kernel
theorem dX7_holds_52 : decode cX7_holds 52 = .ok (.ireturn, 1) := by decide +kernel
theorem dX7_holds_53 : decode cX7_holds 53 = .ok (.aload_n 0, 1) := by decide +kernel
theorem dX7_holds_54 : decode cX7_holds 54 = .ok (.getfield 38, 3) := by decide +kernel
theorem dX7_holds_57 : decode cX7_holds 57 = .ok (.iload_n 1, 1) := by decide +kernel
theorem dX7_holds_58 : decode cX7_holds 58 = .ok (.aload_n 0, 1) := by decide +kernel
theorem dX7_holds_59 : decode cX7_holds 59 = .ok (.getfield 10, 3) := by decide +kernel
theorem dX7_holds_62 : decode cX7_holds 62 = .ok (.getfield 231, 3) := by decide +kernel
theorem dX7_holds_65 : decode cX7_holds 65 = .ok (.iload_n 2, 1) := by decide +kernel
theorem dX7_holds_66 : decode cX7_holds 66 = .ok (.aload_n 0, 1) := by decide +kernel
theorem dX7_holds_67 : decode cX7_holds 67 = .ok (.getfield 38, 3) := by decide +kernel
theorem dX7_holds_70 : decode cX7_holds 70 = .ok (.invokevirtual 235, 3) := by decide +kernel
theorem dX7_holds_73 : decode cX7_holds 73 = .ok (.invokevirtual 276, 3) := by decide +kernel
theorem dX7_holds_76 : decode cX7_holds 76 = .ok (.ireturn, 1) := by decide +kernel
theorem dX7_listed_0 : decode cX7_listed 0 = .ok (.iload_n 1, 1) := by decide +kernel
theorem dX7_listed_1 : decode cX7_listed 1 = .ok (.aload_n 0, 1) := by decide +kernel
theorem dX7_listed_2 : decode cX7_listed 2 = .ok (.getfield 10, 3) := by decide +kernel
theorem dX7_listed_5 : decode cX7_listed 5 = .ok (.getfield 213, 3) := by decide +kernel
theorem dX7_listed_8 : decode cX7_listed 8 = .ok (.getfield 230, 3) := by decide +kernel
theorem dX7_listed_11 : decode cX7_listed 11 = .ok (.invokestatic 196, 3) := by decide +kernel
theorem dX7_listed_14 : decode cX7_listed 14 = .ok (.aload_n 0, 1) := by decide +kernel
theorem dX7_listed_15 : decode cX7_listed 15 = .ok (.getfield 10, 3) := by decide +kernel
theorem dX7_listed_18 : decode cX7_listed 18 = .ok (.getfield 231, 3) := by decide +kernel
theorem dX7_listed_21 : decode cX7_listed 21 = .ok (.iload_n 1, 1) := by decide +kernel
theorem dX7_listed_22 : decode cX7_listed 22 = .ok (.aload_n 0, 1) := by decide +kernel
theorem dX7_listed_23 : decode cX7_listed 23 = .ok (.getfield 38, 3) := by decide +kernel
theorem dX7_listed_26 : decode cX7_listed 26 = .ok (.invokevirtual 235, 3) := by decide +kernel
theorem dX7_listed_29 : decode cX7_listed 29 = .ok (.istore_n 3, 1) := by decide +kernel
theorem dX7_listed_30 : decode cX7_listed 30 = .ok (.iload_n 2, 1) := by decide +kernel
theorem dX7_listed_31 : decode cX7_listed 31 = .ok (.iconst 0, 1) := by decide +kernel
theorem dX7_listed_32 : decode cX7_listed 32 = .ok (.iload_n 3, 1) := by decide +kernel
theorem dX7_listed_33 : decode cX7_listed 33 = .ok (.iconst 1, 1) := by decide +kernel
theorem dX7_listed_34 : decode cX7_listed 34 = .ok (.isub, 1) := by decide +kernel
theorem dX7_listed_35 : decode cX7_listed 35 = .ok (.invokestatic 161, 3) := by decide +kernel
theorem dX7_listed_38 : decode cX7_listed 38 = .ok (.ifCond .ne 13, 3) := by decide +kernel
theorem dX7_listed_41 : decode cX7_listed 41 = .ok (.new 165, 3) := by decide +kernel
theorem dX7_listed_44 : decode cX7_listed 44 = .ok (.dup, 1) := by decide +kernel
theorem dX7_listed_45 : decode cX7_listed 45 = .ok (.ldc 183, 2) := by decide +kernel
theorem dX7_listed_47 : decode cX7_listed 47 = .ok (.invokespecial 169, 3) := by decide +kernel
theorem dX7_listed_50 : decode cX7_listed 50 = .ok (.athrow, 1) := by decide +kernel
theorem dX7_listed_51 : decode cX7_listed 51 = .ok (.aload_n 0, 1) := by decide +kernel
theorem dX7_listed_52 : decode cX7_listed 52 = .ok (.getfield 38, 3) := by decide +kernel
theorem dX7_listed_55 : decode cX7_listed 55 = .ok (.iconst 0, 1) := by decide +kernel
theorem dX7_listed_56 : decode cX7_listed 56 = .ok (.iload_n 2, 1) := by decide +kernel
theorem dX7_listed_57 : decode cX7_listed 57 = .ok (.invokevirtual 155, 3) := by decide +kernel
theorem dX7_listed_60 : decode cX7_listed 60 = .ok (.ireturn, 1) := by decide +kernel
theorem dX7_recalled_0 : decode cX7_recalled 0 = .ok (.aload_n 0, 1) := by decide +kernel
theorem dX7_recalled_1 : decode cX7_recalled 1 = .ok (.iload_n 1, 1) := by decide +kernel
theorem dX7_recalled_2 : decode cX7_recalled 2 = .ok (.invokevirtual 122, 3) := by decide +kernel
theorem dX7_recalled_5 : decode cX7_recalled 5 = .ok (.aload_n 0, 1) := by decide +kernel
theorem dX7_recalled_6 : decode cX7_recalled 6 = .ok (.getfield 10, 3) := by decide +kernel
theorem dX7_recalled_9 : decode cX7_recalled 9 = .ok (.getfield 213, 3) := by decide +kernel
theorem dX7_recalled_12 : decode cX7_recalled 12 = .ok (.aload_n 0, 1) := by decide +kernel
theorem dX7_recalled_13 : decode cX7_recalled 13 = .ok (.getfield 10, 3) := by decide +kernel
theorem dX7_recalled_16 : decode cX7_recalled 16 = .ok (.getfield 63, 3) := by decide +kernel
theorem dX7_recalled_19 : decode cX7_recalled 19 = .ok (.iload_n 1, 1) := by decide +kernel
theorem dX7_recalled_20 : decode cX7_recalled 20 = .ok (.invokevirtual 279, 3) := by decide +kernel
theorem dX7_recalled_23 : decode cX7_recalled 23 = .ok (.invokevirtual 282, 3) := by decide +kernel
theorem dX7_recalled_26 : decode cX7_recalled 26 = .ok (.ireturn, 1) := by decide +kernel
theorem dX7_recalledAgain_0 : decode cX7_recalledAgain 0 = .ok (.aload_n 0, 1) := by decide +kernel
theorem dX7_recalledAgain_1 : decode cX7_recalledAgain 1 = .ok (.iload_n 1, 1) := by decide +kernel
theorem dX7_recalledAgain_2 : decode cX7_recalledAgain 2 = .ok (.invokevirtual 122, 3) := by decide +kernel
theorem dX7_recalledAgain_5 : decode cX7_recalledAgain 5 = .ok (.iconst 0, 1) := by decide +kernel
theorem dX7_recalledAgain_6 : decode cX7_recalledAgain 6 = .ok (.istore_n 2, 1) := by decide +kernel
theorem dX7_recalledAgain_7 : decode cX7_recalledAgain 7 = .ok (.iconst 0, 1) := by decide +kernel
theorem dX7_recalledAgain_8 : decode cX7_recalledAgain 8 = .ok (.istore_n 3, 1) := by decide +kernel
theorem dX7_recalledAgain_9 : decode cX7_recalledAgain 9 = .ok (.iload_n 3, 1) := by decide +kernel
theorem dX7_recalledAgain_10 : decode cX7_recalledAgain 10 = .ok (.aload_n 0, 1) := by decide +kernel
theorem dX7_recalledAgain_11 : decode cX7_recalledAgain 11 = .ok (.getfield 10, 3) := by decide +kernel
theorem dX7_recalledAgain_14 : decode cX7_recalledAgain 14 = .ok (.getfield 213, 3) := by decide +kernel
theorem dX7_recalledAgain_17 : decode cX7_recalledAgain 17 = .ok (.getfield 230, 3) := by decide +kernel
theorem dX7_recalledAgain_20 : decode cX7_recalledAgain 20 = .ok (.if_icmp .ge 47, 3) := by decide +kernel
theorem dX7_recalledAgain_23 : decode cX7_recalledAgain 23 = .ok (.aload_n 0, 1) := by decide +kernel
theorem dX7_recalledAgain_24 : decode cX7_recalledAgain 24 = .ok (.getfield 10, 3) := by decide +kernel
theorem dX7_recalledAgain_27 : decode cX7_recalledAgain 27 = .ok (.getfield 63, 3) := by decide +kernel
theorem dX7_recalledAgain_30 : decode cX7_recalledAgain 30 = .ok (.aload_n 0, 1) := by decide +kernel
theorem dX7_recalledAgain_31 : decode cX7_recalledAgain 31 = .ok (.getfield 10, 3) := by decide +kernel
theorem dX7_recalledAgain_34 : decode cX7_recalledAgain 34 = .ok (.getfield 213, 3) := by decide +kernel
theorem dX7_recalledAgain_37 : decode cX7_recalledAgain 37 = .ok (.iload_n 3, 1) := by decide +kernel
theorem dX7_recalledAgain_38 : decode cX7_recalledAgain 38 = .ok (.invokevirtual 285, 3) := by decide +kernel
theorem dX7_recalledAgain_41 : decode cX7_recalledAgain 41 = .ok (.invokevirtual 288, 3) := by decide +kernel
theorem dX7_recalledAgain_44 : decode cX7_recalledAgain 44 = .ok (.istore 4, 2) := by decide +kernel
theorem dX7_recalledAgain_46 : decode cX7_recalledAgain 46 = .ok (.iload 4, 2) := by decide +kernel
theorem dX7_recalledAgain_48 : decode cX7_recalledAgain 48 = .ok (.iload_n 1, 1) := by decide +kernel
theorem dX7_recalledAgain_49 : decode cX7_recalledAgain 49 = .ok (.invokestatic 291, 3) := by decide +kernel
theorem dX7_recalledAgain_52 : decode cX7_recalledAgain 52 = .ok (.ifCond .eq 9, 3) := by decide +kernel
theorem dX7_recalledAgain_55 : decode cX7_recalledAgain 55 = .ok (.iload_n 2, 1) := by decide +kernel
theorem dX7_recalledAgain_56 : decode cX7_recalledAgain 56 = .ok (.iconst 1, 1) := by decide +kernel
theorem dX7_recalledAgain_57 : decode cX7_recalledAgain 57 = .ok (.iload_n 3, 1) := by decide +kernel
theorem dX7_recalledAgain_58 : decode cX7_recalledAgain 58 = .ok (.ishl, 1) := by decide +kernel
theorem dX7_recalledAgain_59 : decode cX7_recalledAgain 59 = .ok (.ior, 1) := by decide +kernel
theorem dX7_recalledAgain_60 : decode cX7_recalledAgain 60 = .ok (.istore_n 2, 1) := by decide +kernel
theorem dX7_recalledAgain_61 : decode cX7_recalledAgain 61 = .ok (.iinc 3 1, 3) := by decide +kernel
theorem dX7_recalledAgain_64 : decode cX7_recalledAgain 64 = .ok (.goto (-55), 3) := by decide +kernel
theorem dX7_recalledAgain_67 : decode cX7_recalledAgain 67 = .ok (.iload_n 2, 1) := by decide +kernel
theorem dX7_recalledAgain_68 : decode cX7_recalledAgain 68 = .ok (.ireturn, 1) := by decide +kernel
theorem dX7_bottlesOf_0 : decode cX7_bottlesOf 0 = .ok (.aload_n 0, 1) := by decide +kernel
theorem dX7_bottlesOf_1 : decode cX7_bottlesOf 1 = .ok (.iload_n 1, 1) := by decide +kernel
theorem dX7_bottlesOf_2 : decode cX7_bottlesOf 2 = .ok (.invokevirtual 122, 3) := by decide +kernel
theorem dX7_bottlesOf_5 : decode cX7_bottlesOf 5 = .ok (.iload_n 2, 1) := by decide +kernel
theorem dX7_bottlesOf_6 : decode cX7_bottlesOf 6 = .ok (.iconst (-1), 1) := by decide +kernel
theorem dX7_bottlesOf_7 : decode cX7_bottlesOf 7 = .ok (.if_icmp .eq 17, 3) := by decide +kernel
theorem dX7_bottlesOf_10 : decode cX7_bottlesOf 10 = .ok (.iload_n 2, 1) := by decide +kernel
theorem dX7_bottlesOf_11 : decode cX7_bottlesOf 11 = .ok (.aload_n 0, 1) := by decide +kernel
theorem dX7_bottlesOf_12 : decode cX7_bottlesOf 12 = .ok (.getfield 10, 3) := by decide +kernel
theorem dX7_bottlesOf_15 : decode cX7_bottlesOf 15 = .ok (.getfield 231, 3) := by decide +kernel
theorem dX7_bottlesOf_18 : decode cX7_bottlesOf 18 = .ok (.getfield 248, 3) := by decide +kernel
theorem dX7_bottlesOf_21 : decode cX7_bottlesOf 21 = .ok (.invokestatic 196, 3) := by decide +kernel
theorem dX7_bottlesOf_24 : decode cX7_bottlesOf 24 = .ok (.aload_n 0, 1) := by decide +kernel
theorem dX7_bottlesOf_25 : decode cX7_bottlesOf 25 = .ok (.getfield 10, 3) := by decide +kernel
theorem dX7_bottlesOf_28 : decode cX7_bottlesOf 28 = .ok (.getfield 213, 3) := by decide +kernel
theorem dX7_bottlesOf_31 : decode cX7_bottlesOf 31 = .ok (.aload_n 0, 1) := by decide +kernel
theorem dX7_bottlesOf_32 : decode cX7_bottlesOf 32 = .ok (.getfield 10, 3) := by decide +kernel
theorem dX7_bottlesOf_35 : decode cX7_bottlesOf 35 = .ok (.getfield 63, 3) := by decide +kernel
theorem dX7_bottlesOf_38 : decode cX7_bottlesOf 38 = .ok (.iload_n 1, 1) := by decide +kernel
theorem dX7_bottlesOf_39 : decode cX7_bottlesOf 39 = .ok (.invokevirtual 279, 3) := by decide +kernel
theorem dX7_bottlesOf_42 : decode cX7_bottlesOf 42 = .ok (.invokevirtual 282, 3) := by decide +kernel
theorem dX7_bottlesOf_45 : decode cX7_bottlesOf 45 = .ok (.istore_n 3, 1) := by decide +kernel
theorem dX7_bottlesOf_46 : decode cX7_bottlesOf 46 = .ok (.iload_n 2, 1) := by decide +kernel
theorem dX7_bottlesOf_47 : decode cX7_bottlesOf 47 = .ok (.iconst (-1), 1) := by decide +kernel
theorem dX7_bottlesOf_48 : decode cX7_bottlesOf 48 = .ok (.if_icmp .ne 17, 3) := by decide +kernel
theorem dX7_bottlesOf_51 : decode cX7_bottlesOf 51 = .ok (.aload_n 0, 1) := by decide +kernel
theorem dX7_bottlesOf_52 : decode cX7_bottlesOf 52 = .ok (.getfield 10, 3) := by decide +kernel
theorem dX7_bottlesOf_55 : decode cX7_bottlesOf 55 = .ok (.getfield 213, 3) := by decide +kernel
theorem dX7_bottlesOf_58 : decode cX7_bottlesOf 58 = .ok (.iload_n 3, 1) := by decide +kernel
theorem dX7_bottlesOf_59 : decode cX7_bottlesOf 59 = .ok (.invokevirtual 295, 3) := by decide +kernel
theorem dX7_bottlesOf_62 : decode cX7_bottlesOf 62 = .ok (.goto 15, 3) := by decide +kernel
theorem dX7_bottlesOf_65 : decode cX7_bottlesOf 65 = .ok (.aload_n 0, 1) := by decide +kernel
theorem dX7_bottlesOf_66 : decode cX7_bottlesOf 66 = .ok (.getfield 10, 3) := by decide +kernel
theorem dX7_bottlesOf_69 : decode cX7_bottlesOf 69 = .ok (.getfield 231, 3) := by decide +kernel
theorem dX7_bottlesOf_72 : decode cX7_bottlesOf 72 = .ok (.iload_n 2, 1) := by decide +kernel
theorem dX7_bottlesOf_73 : decode cX7_bottlesOf 73 = .ok (.iload_n 3, 1) := by decide +kernel
theorem dX7_bottlesOf_74 : decode cX7_bottlesOf 74 = .ok (.invokevirtual 298, 3) := by decide +kernel
theorem dX7_bottlesOf_77 : decode cX7_bottlesOf 77 = .ok (.ireturn, 1) := by decide +kernel
theorem dX7_ways_0 : decode cX7_ways 0 = .ok (.aload_n 0, 1) := by decide +kernel
theorem dX7_ways_1 : decode cX7_ways 1 = .ok (.iload_n 1, 1) := by decide +kernel
theorem dX7_ways_2 : decode cX7_ways 2 = .ok (.invokevirtual 122, 3) := by decide +kernel
theorem dX7_ways_5 : decode cX7_ways 5 = .ok (.aload_n 0, 1) := by decide +kernel
theorem dX7_ways_6 : decode cX7_ways 6 = .ok (.iload_n 2, 1) := by decide +kernel
theorem dX7_ways_7 : decode cX7_ways 7 = .ok (.invokevirtual 122, 3) := by decide +kernel
theorem dX7_ways_10 : decode cX7_ways 10 = .ok (.aload_n 0, 1) := by decide +kernel
theorem dX7_ways_11 : decode cX7_ways 11 = .ok (.getfield 10, 3) := by decide +kernel
theorem dX7_ways_14 : decode cX7_ways 14 = .ok (.getfield 63, 3) := by decide +kernel
theorem dX7_ways_17 : decode cX7_ways 17 = .ok (.iload_n 1, 1) := by decide +kernel
theorem dX7_ways_18 : decode cX7_ways 18 = .ok (.iload_n 2, 1) := by decide +kernel
theorem dX7_ways_19 : decode cX7_ways 19 = .ok (.aload_n 0, 1) := by decide +kernel
theorem dX7_ways_20 : decode cX7_ways 20 = .ok (.getfield 45, 3) := by decide +kernel
theorem dX7_ways_23 : decode cX7_ways 23 = .ok (.invokevirtual 301, 3) := by decide +kernel
theorem dX7_ways_26 : decode cX7_ways 26 = .ok (.ireturn, 1) := by decide +kernel
theorem dX7_account_0 : decode cX7_account 0 = .ok (.iload_n 1, 1) := by decide +kernel
theorem dX7_account_1 : decode cX7_account 1 = .ok (.iconst 0, 1) := by decide +kernel
theorem dX7_account_2 : decode cX7_account 2 = .ok (.bipush 11, 2) := by decide +kernel
theorem dX7_account_4 : decode cX7_account 4 = .ok (.invokestatic 59, 3) := by decide +kernel
theorem dX7_account_7 : decode cX7_account 7 = .ok (.iload_n 1, 1) := by decide +kernel
theorem dX7_account_8 : decode cX7_account 8 = .ok (.tableswitch 179 0 10 #[60, 71, 82, 93, 104, 116, 127, 138, 149, 160, 171], 60) := by decide +kernel
theorem dX7_account_68 : decode cX7_account 68 = .ok (.aload_n 0, 1) := by decide +kernel
theorem dX7_account_69 : decode cX7_account 69 = .ok (.getfield 10, 3) := by decide +kernel
theorem dX7_account_72 : decode cX7_account 72 = .ok (.getfield 63, 3) := by decide +kernel
theorem dX7_account_75 : decode cX7_account 75 = .ok (.invokevirtual 304, 3) := by decide +kernel
theorem dX7_account_78 : decode cX7_account 78 = .ok (.ireturn, 1) := by decide +kernel
theorem dX7_account_79 : decode cX7_account 79 = .ok (.aload_n 0, 1) := by decide +kernel
theorem dX7_account_80 : decode cX7_account 80 = .ok (.getfield 10, 3) := by decide +kernel
theorem dX7_account_83 : decode cX7_account 83 = .ok (.getfield 63, 3) := by decide +kernel
theorem dX7_account_86 : decode cX7_account 86 = .ok (.invokevirtual 308, 3) := by decide +kernel
theorem dX7_account_89 : decode cX7_account 89 = .ok (.ireturn, 1) := by decide +kernel
theorem dX7_account_90 : decode cX7_account 90 = .ok (.aload_n 0, 1) := by decide +kernel
theorem dX7_account_91 : decode cX7_account 91 = .ok (.getfield 10, 3) := by decide +kernel
theorem dX7_account_94 : decode cX7_account 94 = .ok (.getfield 213, 3) := by decide +kernel
theorem dX7_account_97 : decode cX7_account 97 = .ok (.invokevirtual 311, 3) := by decide +kernel
theorem dX7_account_100 : decode cX7_account 100 = .ok (.ireturn, 1) := by decide +kernel
theorem dX7_account_101 : decode cX7_account 101 = .ok (.aload_n 0, 1) := by decide +kernel
theorem dX7_account_102 : decode cX7_account 102 = .ok (.getfield 10, 3) := by decide +kernel
theorem dX7_account_105 : decode cX7_account 105 = .ok (.getfield 63, 3) := by decide +kernel
theorem dX7_account_108 : decode cX7_account 108 = .ok (.getfield 138, 3) := by decide +kernel
theorem dX7_account_111 : decode cX7_account 111 = .ok (.ireturn, 1) := by decide +kernel
theorem dX7_account_112 : decode cX7_account 112 = .ok (.aload_n 0, 1) := by decide +kernel
theorem dX7_account_113 : decode cX7_account 113 = .ok (.getfield 10, 3) := by decide +kernel
theorem dX7_account_116 : decode cX7_account 116 = .ok (.getfield 213, 3) := by decide +kernel
theorem dX7_account_119 : decode cX7_account 119 = .ok (.iconst (-1), 1) := by decide +kernel
theorem dX7_account_120 : decode cX7_account 120 = .ok (.invokevirtual 295, 3) := by decide +kernel
theorem dX7_account_123 : decode cX7_account 123 = .ok (.ireturn, 1) := by decide +kernel
theorem dX7_account_124 : decode cX7_account 124 = .ok (.aload_n 0, 1) := by decide +kernel
theorem dX7_account_125 : decode cX7_account 125 = .ok (.getfield 10, 3) := by decide +kernel
theorem dX7_account_128 : decode cX7_account 128 = .ok (.getfield 231, 3) := by decide +kernel
theorem dX7_account_131 : decode cX7_account 131 = .ok (.invokevirtual 314, 3) := by decide +kernel
theorem dX7_account_134 : decode cX7_account 134 = .ok (.ireturn, 1) := by decide +kernel
theorem dX7_account_135 : decode cX7_account 135 = .ok (.aload_n 0, 1) := by decide +kernel
theorem dX7_account_136 : decode cX7_account 136 = .ok (.getfield 10, 3) := by decide +kernel
theorem dX7_account_139 : decode cX7_account 139 = .ok (.getfield 63, 3) := by decide +kernel
theorem dX7_account_142 : decode cX7_account 142 = .ok (.getfield 67, 3) := by decide +kernel
theorem dX7_account_145 : decode cX7_account 145 = .ok (.ireturn, 1) := by decide +kernel
theorem dX7_account_146 : decode cX7_account 146 = .ok (.aload_n 0, 1) := by decide +kernel
theorem dX7_account_147 : decode cX7_account 147 = .ok (.getfield 10, 3) := by decide +kernel
theorem dX7_account_150 : decode cX7_account 150 = .ok (.getfield 63, 3) := by decide +kernel
theorem dX7_account_153 : decode cX7_account 153 = .ok (.getfield 72, 3) := by decide +kernel
theorem dX7_account_156 : decode cX7_account 156 = .ok (.ireturn, 1) := by decide +kernel
theorem dX7_account_157 : decode cX7_account 157 = .ok (.aload_n 0, 1) := by decide +kernel
theorem dX7_account_158 : decode cX7_account 158 = .ok (.getfield 10, 3) := by decide +kernel
theorem dX7_account_161 : decode cX7_account 161 = .ok (.getfield 213, 3) := by decide +kernel
theorem dX7_account_164 : decode cX7_account 164 = .ok (.getfield 230, 3) := by decide +kernel
theorem dX7_account_167 : decode cX7_account 167 = .ok (.ireturn, 1) := by decide +kernel
theorem dX7_account_168 : decode cX7_account 168 = .ok (.aload_n 0, 1) := by decide +kernel
theorem dX7_account_169 : decode cX7_account 169 = .ok (.getfield 10, 3) := by decide +kernel
theorem dX7_account_172 : decode cX7_account 172 = .ok (.getfield 231, 3) := by decide +kernel
theorem dX7_account_175 : decode cX7_account 175 = .ok (.getfield 248, 3) := by decide +kernel
theorem dX7_account_178 : decode cX7_account 178 = .ok (.ireturn, 1) := by decide +kernel
theorem dX7_account_179 : decode cX7_account 179 = .ok (.aload_n 0, 1) := by decide +kernel
theorem dX7_account_180 : decode cX7_account 180 = .ok (.getfield 22, 3) := by decide +kernel
theorem dX7_account_183 : decode cX7_account 183 = .ok (.getfield 317, 3) := by decide +kernel
theorem dX7_account_186 : decode cX7_account 186 = .ok (.ireturn, 1) := by decide +kernel
theorem dX7_account_187 : decode cX7_account 187 = .ok (.aload_n 0, 1) := by decide +kernel
theorem dX7_account_188 : decode cX7_account 188 = .ok (.getfield 29, 3) := by decide +kernel
theorem dX7_account_191 : decode cX7_account 191 = .ok (.getfield 94, 3) := by decide +kernel
theorem dX7_account_194 : decode cX7_account 194 = .ok (.ireturn, 1) := by decide +kernel
theorem dX7_feed_0 : decode cX7_feed 0 = .ok (.aload_n 0, 1) := by decide +kernel
theorem dX7_feed_1 : decode cX7_feed 1 = .ok (.getfield 29, 3) := by decide +kernel
theorem dX7_feed_4 : decode cX7_feed 4 = .ok (.getfield 94, 3) := by decide +kernel
theorem dX7_feed_7 : decode cX7_feed 7 = .ok (.bipush 40, 2) := by decide +kernel
theorem dX7_feed_9 : decode cX7_feed 9 = .ok (.if_icmp .lt 14, 3) := by decide +kernel
theorem dX7_feed_12 : decode cX7_feed 12 = .ok (.new 75, 3) := by decide +kernel
theorem dX7_feed_15 : decode cX7_feed 15 = .ok (.dup, 1) := by decide +kernel
theorem dX7_feed_16 : decode cX7_feed 16 = .ok (.ldc_w 318, 3) := by decide +kernel
theorem dX7_feed_19 : decode cX7_feed 19 = .ok (.invokespecial 79, 3) := by decide +kernel
theorem dX7_feed_22 : decode cX7_feed 22 = .ok (.athrow, 1) := by decide +kernel
theorem dX7_feed_23 : decode cX7_feed 23 = .ok (.aload_n 0, 1) := by decide +kernel
theorem dX7_feed_24 : decode cX7_feed 24 = .ok (.getfield 29, 3) := by decide +kernel
theorem dX7_feed_27 : decode cX7_feed 27 = .ok (.iload_n 1, 1) := by decide +kernel
theorem dX7_feed_28 : decode cX7_feed 28 = .ok (.invokevirtual 320, 3) := by decide +kernel
theorem dX7_feed_31 : decode cX7_feed 31 = .ok (.ireturn, 1) := by decide +kernel
theorem dX7_errorPosition_0 : decode cX7_errorPosition 0 = .ok (.aload_n 0, 1) := by decide +kernel
theorem dX7_errorPosition_1 : decode cX7_errorPosition 1 = .ok (.getfield 56, 3) := by decide +kernel
theorem dX7_errorPosition_4 : decode cX7_errorPosition 4 = .ok (.iconst (-1), 1) := by decide +kernel
theorem dX7_errorPosition_5 : decode cX7_errorPosition 5 = .ok (.if_icmp .ne 14, 3) := by decide +kernel
theorem dX7_errorPosition_8 : decode cX7_errorPosition 8 = .ok (.new 165, 3) := by decide +kernel
theorem dX7_errorPosition_11 : decode cX7_errorPosition 11 = .ok (.dup, 1) := by decide +kernel
theorem dX7_errorPosition_12 : decode cX7_errorPosition 12 = .ok (.ldc_w 324, 3) := by decide +kernel
theorem dX7_errorPosition_15 : decode cX7_errorPosition 15 = .ok (.invokespecial 169, 3) := by decide +kernel
theorem dX7_errorPosition_18 : decode cX7_errorPosition 18 = .ok (.athrow, 1) := by decide +kernel
theorem dX7_errorPosition_19 : decode cX7_errorPosition 19 = .ok (.aload_n 0, 1) := by decide +kernel
theorem dX7_errorPosition_20 : decode cX7_errorPosition 20 = .ok (.getfield 56, 3) := by decide +kernel
theorem dX7_errorPosition_23 : decode cX7_errorPosition 23 = .ok (.ireturn, 1) := by decide +kernel
theorem dX7_undo_0 : decode cX7_undo 0 = .ok (.aload_n 0, 1) := by decide +kernel
theorem dX7_undo_1 : decode cX7_undo 1 = .ok (.getfield 22, 3) := by decide +kernel
theorem dX7_undo_4 : decode cX7_undo 4 = .ok (.getfield 317, 3) := by decide +kernel
theorem dX7_undo_7 : decode cX7_undo 7 = .ok (.ifCond .gt 14, 3) := by decide +kernel
theorem dX7_undo_10 : decode cX7_undo 10 = .ok (.new 75, 3) := by decide +kernel
theorem dX7_undo_13 : decode cX7_undo 13 = .ok (.dup, 1) := by decide +kernel
theorem dX7_undo_14 : decode cX7_undo 14 = .ok (.ldc_w 326, 3) := by decide +kernel
theorem dX7_undo_17 : decode cX7_undo 17 = .ok (.invokespecial 79, 3) := by decide +kernel
theorem dX7_undo_20 : decode cX7_undo 20 = .ok (.athrow, 1) := by decide +kernel
theorem dX7_undo_21 : decode cX7_undo 21 = .ok (.aload_n 0, 1) := by decide +kernel
theorem dX7_undo_22 : decode cX7_undo 22 = .ok (.getfield 22, 3) := by decide +kernel
theorem dX7_undo_25 : decode cX7_undo 25 = .ok (.aload_n 0, 1) := by decide +kernel
theorem dX7_undo_26 : decode cX7_undo 26 = .ok (.getfield 10, 3) := by decide +kernel
theorem dX7_undo_29 : decode cX7_undo 29 = .ok (.invokevirtual 328, 3) := by decide +kernel
theorem dX7_undo_32 : decode cX7_undo 32 = .ok (.aload_n 0, 1) := by decide +kernel
theorem dX7_undo_33 : decode cX7_undo 33 = .ok (.getfield 22, 3) := by decide +kernel
theorem dX7_undo_36 : decode cX7_undo 36 = .ok (.getfield 317, 3) := by decide +kernel
theorem dX7_undo_39 : decode cX7_undo 39 = .ok (.ireturn, 1) := by decide +kernel
theorem dX7_save_0 : decode cX7_save 0 = .ok (.aload_n 0, 1) := by decide +kernel
theorem dX7_save_1 : decode cX7_save 1 = .ok (.getfield 16, 3) := by decide +kernel
theorem dX7_save_4 : decode cX7_save 4 = .ok (.aload_n 0, 1) := by decide +kernel
theorem dX7_save_5 : decode cX7_save 5 = .ok (.getfield 10, 3) := by decide +kernel
theorem dX7_save_8 : decode cX7_save 8 = .ok (.invokevirtual 331, 3) := by decide +kernel
theorem dX7_save_11 : decode cX7_save 11 = .ok (.aload_n 0, 1) := by decide +kernel
theorem dX7_save_12 : decode cX7_save 12 = .ok (.iconst 1, 1) := by decide +kernel
theorem dX7_save_13 : decode cX7_save 13 = .ok (.putfield 48, 3) := by decide +kernel
theorem dX7_save_16 : decode cX7_save 16 = .ok (.aload_n 0, 1) := by decide +kernel
theorem dX7_save_17 : decode cX7_save 17 = .ok (.getfield 10, 3) := by decide +kernel
theorem dX7_save_20 : decode cX7_save 20 = .ok (.getfield 63, 3) := by decide +kernel
theorem dX7_save_23 : decode cX7_save 23 = .ok (.getfield 67, 3) := by decide +kernel
theorem dX7_save_26 : decode cX7_save 26 = .ok (.ireturn, 1) := by decide +kernel
theorem dX7_restore_0 : decode cX7_restore 0 = .ok (.aload_n 0, 1) := by decide +kernel
theorem dX7_restore_1 : decode cX7_restore 1 = .ok (.getfield 48, 3) := by decide +kernel
theorem dX7_restore_4 : decode cX7_restore 4 = .ok (.ifCond .ne 14, 3) := by decide +kernel
theorem dX7_restore_7 : decode cX7_restore 7 = .ok (.new 75, 3) := by decide +kernel
theorem dX7_restore_10 : decode cX7_restore 10 = .ok (.dup, 1) := by decide +kernel
theorem dX7_restore_11 : decode cX7_restore 11 = .ok (.ldc_w 334, 3) := by decide +kernel
theorem dX7_restore_14 : decode cX7_restore 14 = .ok (.invokespecial 79, 3) := by decide +kernel
theorem dX7_restore_17 : decode cX7_restore 17 = .ok (.athrow, 1) := by decide +kernel
theorem dX7_restore_18 : decode cX7_restore 18 = .ok (.aload_n 0, 1) := by decide +kernel
theorem dX7_restore_19 : decode cX7_restore 19 = .ok (.getfield 10, 3) := by decide +kernel
theorem dX7_restore_22 : decode cX7_restore 22 = .ok (.aload_n 0, 1) := by decide +kernel
theorem dX7_restore_23 : decode cX7_restore 23 = .ok (.getfield 16, 3) := by decide +kernel
theorem dX7_restore_26 : decode cX7_restore 26 = .ok (.invokevirtual 331, 3) := by decide +kernel
theorem dX7_restore_29 : decode cX7_restore 29 = .ok (.aload_n 0, 1) := by decide +kernel
theorem dX7_restore_30 : decode cX7_restore 30 = .ok (.getfield 22, 3) := by decide +kernel
theorem dX7_restore_33 : decode cX7_restore 33 = .ok (.iconst 0, 1) := by decide +kernel
theorem dX7_restore_34 : decode cX7_restore 34 = .ok (.putfield 317, 3) := by decide +kernel
theorem dX7_restore_37 : decode cX7_restore 37 = .ok (.aload_n 0, 1) := by decide +kernel
theorem dX7_restore_38 : decode cX7_restore 38 = .ok (.getfield 10, 3) := by decide +kernel
theorem dX7_restore_41 : decode cX7_restore 41 = .ok (.getfield 63, 3) := by decide +kernel
theorem dX7_restore_44 : decode cX7_restore 44 = .ok (.getfield 67, 3) := by decide +kernel
theorem dX7_restore_47 : decode cX7_restore 47 = .ok (.ireturn, 1) := by decide +kernel
theorem dX7_isWithin_0 : decode cX7_isWithin 0 = .ok (.iload_n 0, 1) := by decide +kernel
theorem dX7_isWithin_1 : decode cX7_isWithin 1 = .ok (.iload_n 1, 1) := by decide +kernel
theorem dX7_isWithin_2 : decode cX7_isWithin 2 = .ok (.if_icmp .lt 12, 3) := by decide +kernel
theorem dX7_isWithin_5 : decode cX7_isWithin 5 = .ok (.iload_n 0, 1) := by decide +kernel
theorem dX7_isWithin_6 : decode cX7_isWithin 6 = .ok (.iload_n 2, 1) := by decide +kernel
theorem dX7_isWithin_7 : decode cX7_isWithin 7 = .ok (.if_icmp .gt 7, 3) := by decide +kernel
theorem dX7_isWithin_10 : decode cX7_isWithin 10 = .ok (.iconst 1, 1) := by decide +kernel
theorem dX7_isWithin_11 : decode cX7_isWithin 11 = .ok (.goto 4, 3) := by decide +kernel
theorem dX7_isWithin_14 : decode cX7_isWithin 14 = .ok (.iconst 0, 1) := by decide +kernel
theorem dX7_isWithin_15 : decode cX7_isWithin 15 = .ok (.ireturn, 1) := by decide +kernel
theorem dX7_isIn_0 : decode cX7_isIn 0 = .ok (.iload_n 0, 1) := by decide +kernel
theorem dX7_isIn_1 : decode cX7_isIn 1 = .ok (.iload_n 1, 1) := by decide +kernel
theorem dX7_isIn_2 : decode cX7_isIn 2 = .ok (.ishr, 1) := by decide +kernel
theorem dX7_isIn_3 : decode cX7_isIn 3 = .ok (.iconst 1, 1) := by decide +kernel
theorem dX7_isIn_4 : decode cX7_isIn 4 = .ok (.iand, 1) := by decide +kernel
theorem dX7_isIn_5 : decode cX7_isIn 5 = .ok (.iconst 1, 1) := by decide +kernel
theorem dX7_isIn_6 : decode cX7_isIn 6 = .ok (.if_icmp .ne 7, 3) := by decide +kernel
theorem dX7_isIn_9 : decode cX7_isIn 9 = .ok (.iconst 1, 1) := by decide +kernel
theorem dX7_isIn_10 : decode cX7_isIn 10 = .ok (.goto 4, 3) := by decide +kernel
theorem dX7_isIn_13 : decode cX7_isIn 13 = .ok (.iconst 0, 1) := by decide +kernel
theorem dX7_isIn_14 : decode cX7_isIn 14 = .ok (.ireturn, 1) := by decide +kernel
theorem dX7_requireNumber_0 : decode cX7_requireNumber 0 = .ok (.iload_n 0, 1) := by decide +kernel
theorem dX7_requireNumber_1 : decode cX7_requireNumber 1 = .ok (.iload_n 1, 1) := by decide +kernel
theorem dX7_requireNumber_2 : decode cX7_requireNumber 2 = .ok (.iload_n 2, 1) := by decide +kernel
theorem dX7_requireNumber_3 : decode cX7_requireNumber 3 = .ok (.invokestatic 161, 3) := by decide +kernel
theorem dX7_requireNumber_6 : decode cX7_requireNumber 6 = .ok (.ifCond .ne 14, 3) := by decide +kernel
theorem dX7_requireNumber_9 : decode cX7_requireNumber 9 = .ok (.new 100, 3) := by decide +kernel
theorem dX7_requireNumber_12 : decode cX7_requireNumber 12 = .ok (.dup, 1) := by decide +kernel
theorem dX7_requireNumber_13 : decode cX7_requireNumber 13 = .ok (.ldc_w 336, 3) := by decide +kernel
theorem dX7_requireNumber_16 : decode cX7_requireNumber 16 = .ok (.invokespecial 104, 3) := by decide +kernel
theorem dX7_requireNumber_19 : decode cX7_requireNumber 19 = .ok (.athrow, 1) := by decide +kernel
theorem dX7_requireNumber_20 : decode cX7_requireNumber 20 = .ok (.return_, 1) := by decide +kernel
theorem dX7_requirePlace_0 : decode cX7_requirePlace 0 = .ok (.iload_n 0, 1) := by decide +kernel
theorem dX7_requirePlace_1 : decode cX7_requirePlace 1 = .ok (.iconst 0, 1) := by decide +kernel
theorem dX7_requirePlace_2 : decode cX7_requirePlace 2 = .ok (.iload_n 1, 1) := by decide +kernel
theorem dX7_requirePlace_3 : decode cX7_requirePlace 3 = .ok (.iconst 1, 1) := by decide +kernel
theorem dX7_requirePlace_4 : decode cX7_requirePlace 4 = .ok (.isub, 1) := by decide +kernel
theorem dX7_requirePlace_5 : decode cX7_requirePlace 5 = .ok (.invokestatic 161, 3) := by decide +kernel
theorem dX7_requirePlace_8 : decode cX7_requirePlace 8 = .ok (.ifCond .ne 14, 3) := by decide +kernel
theorem dX7_requirePlace_11 : decode cX7_requirePlace 11 = .ok (.new 338, 3) := by decide +kernel
theorem dX7_requirePlace_14 : decode cX7_requirePlace 14 = .ok (.dup, 1) := by decide +kernel
theorem dX7_requirePlace_15 : decode cX7_requirePlace 15 = .ok (.ldc_w 340, 3) := by decide +kernel
theorem dX7_requirePlace_18 : decode cX7_requirePlace 18 = .ok (.invokespecial 342, 3) := by decide +kernel
theorem dX7_requirePlace_21 : decode cX7_requirePlace 21 = .ok (.athrow, 1) := by decide +kernel
theorem dX7_requirePlace_22 : decode cX7_requirePlace 22 = .ok (.return_, 1) := by decide +kernel
theorem dX7_requireLot_0 : decode cX7_requireLot 0 = .ok (.iload_n 1, 1) := by decide +kernel
theorem dX7_requireLot_1 : decode cX7_requireLot 1 = .ok (.aload_n 0, 1) := by decide +kernel
theorem dX7_requireLot_2 : decode cX7_requireLot 2 = .ok (.getfield 10, 3) := by decide +kernel
theorem dX7_requireLot_5 : decode cX7_requireLot 5 = .ok (.getfield 63, 3) := by decide +kernel
theorem dX7_requireLot_8 : decode cX7_requireLot 8 = .ok (.getfield 67, 3) := by decide +kernel
theorem dX7_requireLot_11 : decode cX7_requireLot 11 = .ok (.invokestatic 196, 3) := by decide +kernel
theorem dX7_requireLot_14 : decode cX7_requireLot 14 = .ok (.return_, 1) := by decide +kernel
theorem dX7_requireCustomerAndBottling_0 : decode cX7_requireCustomerAndBottling 0 = .ok (.iload_n 1, 1) := by decide +kernel
theorem dX7_requireCustomerAndBottling_1 : decode cX7_requireCustomerAndBottling 1 = .ok (.aload_n 0, 1) := by decide +kernel
theorem dX7_requireCustomerAndBottling_2 : decode cX7_requireCustomerAndBottling 2 = .ok (.getfield 10, 3) := by decide +kernel
theorem dX7_requireCustomerAndBottling_5 : decode cX7_requireCustomerAndBottling 5 = .ok (.getfield 231, 3) := by decide +kernel
theorem dX7_requireCustomerAndBottling_8 : decode cX7_requireCustomerAndBottling 8 = .ok (.getfield 248, 3) := by decide +kernel
theorem dX7_requireCustomerAndBottling_11 : decode cX7_requireCustomerAndBottling 11 = .ok (.invokestatic 196, 3) := by decide +kernel
theorem dX7_requireCustomerAndBottling_14 : decode cX7_requireCustomerAndBottling 14 = .ok (.iload_n 2, 1) := by decide +kernel
theorem dX7_requireCustomerAndBottling_15 : decode cX7_requireCustomerAndBottling 15 = .ok (.aload_n 0, 1) := by decide +kernel
theorem dX7_requireCustomerAndBottling_16 : decode cX7_requireCustomerAndBottling 16 = .ok (.getfield 10, 3) := by decide +kernel
theorem dX7_requireCustomerAndBottling_19 : decode cX7_requireCustomerAndBottling 19 = .ok (.getfield 213, 3) := by decide +kernel
theorem dX7_requireCustomerAndBottling_22 : decode cX7_requireCustomerAndBottling 22 = .ok (.getfield 230, 3) := by decide +kernel
theorem dX7_requireCustomerAndBottling_25 : decode cX7_requireCustomerAndBottling 25 = .ok (.invokestatic 196, 3) := by decide +kernel
theorem dX7_requireCustomerAndBottling_28 : decode cX7_requireCustomerAndBottling 28 = .ok (.return_, 1) := by decide +kernel
theorem dX7_requireLabel_0 : decode cX7_requireLabel 0 = .ok (.iload_n 0, 1) := by decide +kernel
theorem dX7_requireLabel_1 : decode cX7_requireLabel 1 = .ok (.iconst (-1), 1) := by decide +kernel
theorem dX7_requireLabel_2 : decode cX7_requireLabel 2 = .ok (.bipush 99, 2) := by decide +kernel
theorem dX7_requireLabel_4 : decode cX7_requireLabel 4 = .ok (.invokestatic 59, 3) := by decide +kernel
theorem dX7_requireLabel_7 : decode cX7_requireLabel 7 = .ok (.iload_n 1, 1) := by decide +kernel
theorem dX7_requireLabel_8 : decode cX7_requireLabel 8 = .ok (.iconst (-1), 1) := by decide +kernel
theorem dX7_requireLabel_9 : decode cX7_requireLabel 9 = .ok (.iconst 4, 1) := by decide +kernel
theorem dX7_requireLabel_10 : decode cX7_requireLabel 10 = .ok (.invokestatic 59, 3) := by decide +kernel
theorem dX7_requireLabel_13 : decode cX7_requireLabel 13 = .ok (.iload_n 2, 1) := by decide +kernel
theorem dX7_requireLabel_14 : decode cX7_requireLabel 14 = .ok (.iconst (-1), 1) := by decide +kernel
theorem dX7_requireLabel_15 : decode cX7_requireLabel 15 = .ok (.iconst 4, 1) := by decide +kernel
theorem dX7_requireLabel_16 : decode cX7_requireLabel 16 = .ok (.invokestatic 59, 3) := by decide +kernel
theorem dX7_requireLabel_19 : decode cX7_requireLabel 19 = .ok (.iload_n 3, 1) := by decide +kernel
theorem dX7_requireLabel_20 : decode cX7_requireLabel 20 = .ok (.iconst (-1), 1) := by decide +kernel
theorem dX7_requireLabel_21 : decode cX7_requireLabel 21 = .ok (.iconst 3, 1) := by decide +kernel
theorem dX7_requireLabel_22 : decode cX7_requireLabel 22 = .ok (.invokestatic 59, 3) := by decide +kernel
theorem dX7_requireLabel_25 : decode cX7_requireLabel 25 = .ok (.iload_n 2, 1) := by decide +kernel
theorem dX7_requireLabel_26 : decode cX7_requireLabel 26 = .ok (.iconst (-1), 1) := by decide +kernel
theorem dX7_requireLabel_27 : decode cX7_requireLabel 27 = .ok (.if_icmp .eq 24, 3) := by decide +kernel
theorem dX7_requireLabel_30 : decode cX7_requireLabel 30 = .ok (.iload_n 1, 1) := by decide +kernel
theorem dX7_requireLabel_31 : decode cX7_requireLabel 31 = .ok (.iconst (-1), 1) := by decide +kernel
theorem dX7_requireLabel_32 : decode cX7_requireLabel 32 = .ok (.if_icmp .eq 8, 3) := by decide +kernel
theorem dX7_requireLabel_35 : decode cX7_requireLabel 35 = .ok (.iload_n 1, 1) := by decide +kernel
theorem dX7_requireLabel_36 : decode cX7_requireLabel 36 = .ok (.iload_n 2, 1) := by decide +kernel
theorem dX7_requireLabel_37 : decode cX7_requireLabel 37 = .ok (.if_icmp .ne 14, 3) := by decide +kernel
theorem dX7_requireLabel_40 : decode cX7_requireLabel 40 = .ok (.new 100, 3) := by decide +kernel
theorem dX7_requireLabel_43 : decode cX7_requireLabel 43 = .ok (.dup, 1) := by decide +kernel
theorem dX7_requireLabel_44 : decode cX7_requireLabel 44 = .ok (.ldc_w 343, 3) := by decide +kernel
theorem dX7_requireLabel_47 : decode cX7_requireLabel 47 = .ok (.invokespecial 104, 3) := by decide +kernel
theorem dX7_requireLabel_50 : decode cX7_requireLabel 50 = .ok (.athrow, 1) := by decide +kernel
theorem dX7_requireLabel_51 : decode cX7_requireLabel 51 = .ok (.return_, 1) := by decide +kernel
theorem dX7_requireNoRefusal_0 : decode cX7_requireNoRefusal 0 = .ok (.iload_n 1, 1) := by decide +kernel
theorem dX7_requireNoRefusal_1 : decode cX7_requireNoRefusal 1 = .ok (.ifCond .eq 19, 3) := by decide +kernel
theorem dX7_requireNoRefusal_4 : decode cX7_requireNoRefusal 4 = .ok (.aload_n 0, 1) := by decide +kernel
theorem dX7_requireNoRefusal_5 : decode cX7_requireNoRefusal 5 = .ok (.iload_n 1, 1) := by decide +kernel
theorem dX7_requireNoRefusal_6 : decode cX7_requireNoRefusal 6 = .ok (.putfield 52, 3) := by decide +kernel
theorem dX7_requireNoRefusal_9 : decode cX7_requireNoRefusal 9 = .ok (.new 75, 3) := by decide +kernel
theorem dX7_requireNoRefusal_12 : decode cX7_requireNoRefusal 12 = .ok (.dup, 1) := by decide +kernel
theorem dX7_requireNoRefusal_13 : decode cX7_requireNoRefusal 13 = .ok (.ldc_w 345, 3) := by decide +kernel
theorem dX7_requireNoRefusal_16 : decode cX7_requireNoRefusal 16 = .ok (.invokespecial 79, 3) := by decide +kernel
theorem dX7_requireNoRefusal_19 : decode cX7_requireNoRefusal 19 = .ok (.athrow, 1) := by decide +kernel
theorem dX7_requireNoRefusal_20 : decode cX7_requireNoRefusal 20 = .ok (.return_, 1) := by decide +kernel
theorem dJ6_bitCount_0f7a4_0 : decode cJ6_bitCount_0f7a4 0 = .ok (.iload_n 0, 1) := by decide +kernel
theorem dJ6_bitCount_0f7a4_1 : decode cJ6_bitCount_0f7a4 1 = .ok (.iload_n 0, 1) := by decide +kernel
theorem dJ6_bitCount_0f7a4_2 : decode cJ6_bitCount_0f7a4 2 = .ok (.iconst 1, 1) := by decide +kernel
theorem dJ6_bitCount_0f7a4_3 : decode cJ6_bitCount_0f7a4 3 = .ok (.iushr, 1) := by decide +kernel
theorem dJ6_bitCount_0f7a4_4 : decode cJ6_bitCount_0f7a4 4 = .ok (.ldc_w 265, 3) := by decide +kernel
theorem dJ6_bitCount_0f7a4_7 : decode cJ6_bitCount_0f7a4 7 = .ok (.iand, 1) := by decide +kernel
theorem dJ6_bitCount_0f7a4_8 : decode cJ6_bitCount_0f7a4 8 = .ok (.isub, 1) := by decide +kernel
theorem dJ6_bitCount_0f7a4_9 : decode cJ6_bitCount_0f7a4 9 = .ok (.istore_n 0, 1) := by decide +kernel
theorem dJ6_bitCount_0f7a4_10 : decode cJ6_bitCount_0f7a4 10 = .ok (.iload_n 0, 1) := by decide +kernel
theorem dJ6_bitCount_0f7a4_11 : decode cJ6_bitCount_0f7a4 11 = .ok (.ldc_w 266, 3) := by decide +kernel
theorem dJ6_bitCount_0f7a4_14 : decode cJ6_bitCount_0f7a4 14 = .ok (.iand, 1) := by decide +kernel
theorem dJ6_bitCount_0f7a4_15 : decode cJ6_bitCount_0f7a4 15 = .ok (.iload_n 0, 1) := by decide +kernel
theorem dJ6_bitCount_0f7a4_16 : decode cJ6_bitCount_0f7a4 16 = .ok (.iconst 2, 1) := by decide +kernel
theorem dJ6_bitCount_0f7a4_17 : decode cJ6_bitCount_0f7a4 17 = .ok (.iushr, 1) := by decide +kernel
theorem dJ6_bitCount_0f7a4_18 : decode cJ6_bitCount_0f7a4 18 = .ok (.ldc_w 266, 3) := by decide +kernel
theorem dJ6_bitCount_0f7a4_21 : decode cJ6_bitCount_0f7a4 21 = .ok (.iand, 1) := by decide +kernel
theorem dJ6_bitCount_0f7a4_22 : decode cJ6_bitCount_0f7a4 22 = .ok (.iadd, 1) := by decide +kernel
theorem dJ6_bitCount_0f7a4_23 : decode cJ6_bitCount_0f7a4 23 = .ok (.istore_n 0, 1) := by decide +kernel
theorem dJ6_bitCount_0f7a4_24 : decode cJ6_bitCount_0f7a4 24 = .ok (.iload_n 0, 1) := by decide +kernel
theorem dJ6_bitCount_0f7a4_25 : decode cJ6_bitCount_0f7a4 25 = .ok (.iload_n 0, 1) := by decide +kernel
theorem dJ6_bitCount_0f7a4_26 : decode cJ6_bitCount_0f7a4 26 = .ok (.iconst 4, 1) := by decide +kernel
theorem dJ6_bitCount_0f7a4_27 : decode cJ6_bitCount_0f7a4 27 = .ok (.iushr, 1) := by decide +kernel
theorem dJ6_bitCount_0f7a4_28 : decode cJ6_bitCount_0f7a4 28 = .ok (.iadd, 1) := by decide +kernel
theorem dJ6_bitCount_0f7a4_29 : decode cJ6_bitCount_0f7a4 29 = .ok (.ldc_w 267, 3) := by decide +kernel
theorem dJ6_bitCount_0f7a4_32 : decode cJ6_bitCount_0f7a4 32 = .ok (.iand, 1) := by decide +kernel
theorem dJ6_bitCount_0f7a4_33 : decode cJ6_bitCount_0f7a4 33 = .ok (.istore_n 0, 1) := by decide +kernel
theorem dJ6_bitCount_0f7a4_34 : decode cJ6_bitCount_0f7a4 34 = .ok (.iload_n 0, 1) := by decide +kernel
theorem dJ6_bitCount_0f7a4_35 : decode cJ6_bitCount_0f7a4 35 = .ok (.iload_n 0, 1) := by decide +kernel
theorem dJ6_bitCount_0f7a4_36 : decode cJ6_bitCount_0f7a4 36 = .ok (.bipush 8, 2) := by decide +kernel
theorem dJ6_bitCount_0f7a4_38 : decode cJ6_bitCount_0f7a4 38 = .ok (.iushr, 1) := by decide +kernel
theorem dJ6_bitCount_0f7a4_39 : decode cJ6_bitCount_0f7a4 39 = .ok (.iadd, 1) := by decide +kernel
theorem dJ6_bitCount_0f7a4_40 : decode cJ6_bitCount_0f7a4 40 = .ok (.istore_n 0, 1) := by decide +kernel
theorem dJ6_bitCount_0f7a4_41 : decode cJ6_bitCount_0f7a4 41 = .ok (.iload_n 0, 1) := by decide +kernel
theorem dJ6_bitCount_0f7a4_42 : decode cJ6_bitCount_0f7a4 42 = .ok (.iload_n 0, 1) := by decide +kernel
theorem dJ6_bitCount_0f7a4_43 : decode cJ6_bitCount_0f7a4 43 = .ok (.bipush 16, 2) := by decide +kernel
theorem dJ6_bitCount_0f7a4_45 : decode cJ6_bitCount_0f7a4 45 = .ok (.iushr, 1) := by decide +kernel
theorem dJ6_bitCount_0f7a4_46 : decode cJ6_bitCount_0f7a4 46 = .ok (.iadd, 1) := by decide +kernel
theorem dJ6_bitCount_0f7a4_47 : decode cJ6_bitCount_0f7a4 47 = .ok (.istore_n 0, 1) := by decide +kernel
theorem dJ6_bitCount_0f7a4_48 : decode cJ6_bitCount_0f7a4 48 = .ok (.iload_n 0, 1) := by decide +kernel
theorem dJ6_bitCount_0f7a4_49 : decode cJ6_bitCount_0f7a4 49 = .ok (.bipush 63, 2) := by decide +kernel
theorem dJ6_bitCount_0f7a4_51 : decode cJ6_bitCount_0f7a4 51 = .ok (.iand, 1) := by decide +kernel
theorem dJ6_bitCount_0f7a4_52 : decode cJ6_bitCount_0f7a4 52 = .ok (.ireturn, 1) := by decide +kernel
theorem dJ9_max_7cf53_0 : decode cJ9_max_7cf53 0 = .ok (.iload_n 0, 1) := by decide +kernel
theorem dJ9_max_7cf53_1 : decode cJ9_max_7cf53 1 = .ok (.iload_n 1, 1) := by decide +kernel
theorem dJ9_max_7cf53_2 : decode cJ9_max_7cf53 2 = .ok (.if_icmp .lt 7, 3) := by decide +kernel
theorem dJ9_max_7cf53_5 : decode cJ9_max_7cf53 5 = .ok (.iload_n 0, 1) := by decide +kernel
theorem dJ9_max_7cf53_6 : decode cJ9_max_7cf53 6 = .ok (.goto 4, 3) := by decide +kernel
theorem dJ9_max_7cf53_9 : decode cJ9_max_7cf53 9 = .ok (.iload_n 1, 1) := by decide +kernel
theorem dJ9_max_7cf53_10 : decode cJ9_max_7cf53 10 = .ok (.ireturn, 1) := by decide +kernel
theorem dJ9_min_7cf53_0 : decode cJ9_min_7cf53 0 = .ok (.iload_n 0, 1) := by decide +kernel
theorem dJ9_min_7cf53_1 : decode cJ9_min_7cf53 1 = .ok (.iload_n 1, 1) := by decide +kernel
theorem dJ9_min_7cf53_2 : decode cJ9_min_7cf53 2 = .ok (.if_icmp .gt 7, 3) := by decide +kernel
theorem dJ9_min_7cf53_5 : decode cJ9_min_7cf53 5 = .ok (.iload_n 0, 1) := by decide +kernel
theorem dJ9_min_7cf53_6 : decode cJ9_min_7cf53 6 = .ok (.goto 4, 3) := by decide +kernel
theorem dJ9_min_7cf53_9 : decode cJ9_min_7cf53 9 = .ok (.iload_n 1, 1) := by decide +kernel
theorem dJ9_min_7cf53_10 : decode cJ9_min_7cf53 10 = .ok (.ireturn, 1) := by decide +kernel
end
section
theorem dX8_init_0 : decode cX8_init 0 = .ok (.aload_n 0, 1) := by decide +kernel
theorem dX8_init_1 : decode cX8_init 1 = .ok (.invokespecial 1, 3) := by decide +kernel
theorem dX8_init_4 : decode cX8_init 4 = .ok (.aload_n 0, 1) := by decide +kernel
theorem dX8_init_5 : decode cX8_init 5 = .ok (.sipush 1032, 3) := by decide +kernel
theorem dX8_init_8 : decode cX8_init 8 = .ok (.newarray .int, 2) := by decide +kernel
theorem dX8_init_10 : decode cX8_init 10 = .ok (.putfield 9, 3) := by decide +kernel
theorem dX8_init_13 : decode cX8_init 13 = .ok (.aload_n 0, 1) := by decide +kernel
theorem dX8_init_14 : decode cX8_init 14 = .ok (.sipush 8256, 3) := by decide +kernel
theorem dX8_init_17 : decode cX8_init 17 = .ok (.newarray .int, 2) := by decide +kernel
theorem dX8_init_19 : decode cX8_init 19 = .ok (.putfield 13, 3) := by decide +kernel
theorem dX8_init_22 : decode cX8_init 22 = .ok (.aload_n 0, 1) := by decide +kernel
theorem dX8_init_23 : decode cX8_init 23 = .ok (.sipush 1032, 3) := by decide +kernel
theorem dX8_init_26 : decode cX8_init 26 = .ok (.newarray .int, 2) := by decide +kernel
theorem dX8_init_28 : decode cX8_init 28 = .ok (.putfield 16, 3) := by decide +kernel
theorem dX8_init_31 : decode cX8_init 31 = .ok (.aload_n 0, 1) := by decide +kernel
theorem dX8_init_32 : decode cX8_init 32 = .ok (.iconst (-1), 1) := by decide +kernel
theorem dX8_init_33 : decode cX8_init 33 = .ok (.putfield 19, 3) := by decide +kernel
theorem dX8_init_36 : decode cX8_init 36 = .ok (.aload_n 0, 1) := by decide +kernel
theorem dX8_init_37 : decode cX8_init 37 = .ok (.bipush 40, 2) := by decide +kernel
theorem dX8_init_39 : decode cX8_init 39 = .ok (.newarray .char, 2) := by decide +kernel
theorem dX8_init_41 : decode cX8_init 41 = .ok (.putfield 23, 3) := by decide +kernel
theorem dX8_init_44 : decode cX8_init 44 = .ok (.aload_n 0, 1) := by decide +kernel
theorem dX8_init_45 : decode cX8_init 45 = .ok (.iconst 4, 1) := by decide +kernel
theorem dX8_init_46 : decode cX8_init 46 = .ok (.newarray .int, 2) := by decide +kernel
theorem dX8_init_48 : decode cX8_init 48 = .ok (.putfield 27, 3) := by decide +kernel
theorem dX8_init_51 : decode cX8_init 51 = .ok (.aload_n 0, 1) := by decide +kernel
theorem dX8_init_52 : decode cX8_init 52 = .ok (.iconst 4, 1) := by decide +kernel
theorem dX8_init_53 : decode cX8_init 53 = .ok (.newarray .int, 2) := by decide +kernel
theorem dX8_init_55 : decode cX8_init 55 = .ok (.putfield 30, 3) := by decide +kernel
theorem dX8_init_58 : decode cX8_init 58 = .ok (.aload_n 0, 1) := by decide +kernel
theorem dX8_init_59 : decode cX8_init 59 = .ok (.bipush 12, 2) := by decide +kernel
theorem dX8_init_61 : decode cX8_init 61 = .ok (.newarray .int, 2) := by decide +kernel
theorem dX8_init_63 : decode cX8_init 63 = .ok (.putfield 33, 3) := by decide +kernel
theorem dX8_init_66 : decode cX8_init 66 = .ok (.aload_n 0, 1) := by decide +kernel
theorem dX8_init_67 : decode cX8_init 67 = .ok (.bipush 8, 2) := by decide +kernel
theorem dX8_init_69 : decode cX8_init 69 = .ok (.newarray .int, 2) := by decide +kernel
theorem dX8_init_71 : decode cX8_init 71 = .ok (.putfield 36, 3) := by decide +kernel
theorem dX8_init_74 : decode cX8_init 74 = .ok (.aload_n 0, 1) := by decide +kernel
theorem dX8_init_75 : decode cX8_init 75 = .ok (.bipush 24, 2) := by decide +kernel
theorem dX8_init_77 : decode cX8_init 77 = .ok (.newarray .int, 2) := by decide +kernel
theorem dX8_init_79 : decode cX8_init 79 = .ok (.putfield 39, 3) := by decide +kernel
theorem dX8_init_82 : decode cX8_init 82 = .ok (.aload_n 0, 1) := by decide +kernel
theorem dX8_init_83 : decode cX8_init 83 = .ok (.getfield 9, 3) := by decide +kernel
theorem dX8_init_86 : decode cX8_init 86 = .ok (.iconst 5, 1) := by decide +kernel
theorem dX8_init_87 : decode cX8_init 87 = .ok (.sipush 850, 3) := by decide +kernel
theorem dX8_init_90 : decode cX8_init 90 = .ok (.iastore, 1) := by decide +kernel
theorem dX8_init_91 : decode cX8_init 91 = .ok (.aload_n 0, 1) := by decide +kernel
theorem dX8_init_92 : decode cX8_init 92 = .ok (.getfield 9, 3) := by decide +kernel
theorem dX8_init_95 : decode cX8_init 95 = .ok (.bipush 6, 2) := by decide +kernel
theorem dX8_init_97 : decode cX8_init 97 = .ok (.sipush 850, 3) := by decide +kernel
theorem dX8_init_100 : decode cX8_init 100 = .ok (.iastore, 1) := by decide +kernel
theorem dX8_init_101 : decode cX8_init 101 = .ok (.aload_n 0, 1) := by decide +kernel
theorem dX8_init_102 : decode cX8_init 102 = .ok (.getfield 9, 3) := by decide +kernel
theorem dX8_init_105 : decode cX8_init 105 = .ok (.bipush 7, 2) := by decide +kernel
theorem dX8_init_107 : decode cX8_init 107 = .ok (.sipush 750, 3) := by decide +kernel
theorem dX8_init_110 : decode cX8_init 110 = .ok (.iastore, 1) := by decide +kernel
theorem dX8_init_111 : decode cX8_init 111 = .ok (.return_, 1) := by decide +kernel
theorem dX8_thrown_0 : decode cX8_thrown 0 = .ok (.aload_n 0, 1) := by decide +kernel
theorem dX8_thrown_1 : decode cX8_thrown 1 = .ok (.getfield 42, 3) := by decide +kernel
theorem dX8_thrown_4 : decode cX8_thrown 4 = .ok (.ireturn, 1) := by decide +kernel
theorem dX8_isIn_0 : decode cX8_isIn 0 = .ok (.iload_n 0, 1) := by decide +kernel
theorem dX8_isIn_1 : decode cX8_isIn 1 = .ok (.iload_n 1, 1) := by decide +kernel
theorem dX8_isIn_2 : decode cX8_isIn 2 = .ok (.if_icmp .lt 12, 3) := by decide +kernel
theorem dX8_isIn_5 : decode cX8_isIn 5 = .ok (.iload_n 0, 1) := by decide +kernel
theorem dX8_isIn_6 : decode cX8_isIn 6 = .ok (.iload_n 2, 1) := by decide +kernel
theorem dX8_isIn_7 : decode cX8_isIn 7 = .ok (.if_icmp .gt 7, 3) := by decide +kernel
theorem dX8_isIn_10 : decode cX8_isIn 10 = .ok (.iconst 1, 1) := by decide +kernel
theorem dX8_isIn_11 : decode cX8_isIn 11 = .ok (.goto 4, 3) := by decide +kernel
theorem dX8_isIn_14 : decode cX8_isIn 14 = .ok (.iconst 0, 1) := by decide +kernel
theorem dX8_isIn_15 : decode cX8_isIn 15 = .ok (.ireturn, 1) := by decide +kernel
theorem dX8_fail_0 : decode cX8_fail 0 = .ok (.aload_n 0, 1) := by decide +kernel
theorem dX8_fail_1 : decode cX8_fail 1 = .ok (.iload_n 1, 1) := by decide +kernel
theorem dX8_fail_2 : decode cX8_fail 2 = .ok (.putfield 42, 3) := by decide +kernel
theorem dX8_fail_5 : decode cX8_fail 5 = .ok (.iconst 0, 1) := by decide +kernel
theorem dX8_fail_6 : decode cX8_fail 6 = .ok (.ireturn, 1) := by decide +kernel
theorem dX8_refuse_0 : decode cX8_refuse 0 = .ok (.aload_n 0, 1) := by decide +kernel
theorem dX8_refuse_1 : decode cX8_refuse 1 = .ok (.iload_n 2, 1) := by decide +kernel
theorem dX8_refuse_2 : decode cX8_refuse 2 = .ok (.putfield 45, 3) := by decide +kernel
theorem dX8_refuse_5 : decode cX8_refuse 5 = .ok (.aload_n 0, 1) := by decide +kernel
theorem dX8_refuse_6 : decode cX8_refuse 6 = .ok (.iload_n 1, 1) := by decide +kernel
theorem dX8_refuse_7 : decode cX8_refuse 7 = .ok (.invokevirtual 48, 3) := by decide +kernel
theorem dX8_refuse_10 : decode cX8_refuse 10 = .ok (.ireturn, 1) := by decide +kernel
theorem dX8_remember_0 : decode cX8_remember 0 = .ok (.aload_n 0, 1) := by decide +kernel
theorem dX8_remember_1 : decode cX8_remember 1 = .ok (.getfield 52, 3) := by decide +kernel
theorem dX8_remember_4 : decode cX8_remember 4 = .ok (.bipush 8, 2) := by decide +kernel
theorem dX8_remember_6 : decode cX8_remember 6 = .ok (.if_icmp .ne 49, 3) := by decide +kernel
theorem dX8_remember_9 : decode cX8_remember 9 = .ok (.aload_n 0, 1) := by decide +kernel
theorem dX8_remember_10 : decode cX8_remember 10 = .ok (.dup, 1) := by decide +kernel
theorem dX8_remember_11 : decode cX8_remember 11 = .ok (.getfield 52, 3) := by decide +kernel
theorem dX8_remember_14 : decode cX8_remember 14 = .ok (.iconst 1, 1) := by decide +kernel
theorem dX8_remember_15 : decode cX8_remember 15 = .ok (.isub, 1) := by decide +kernel
theorem dX8_remember_16 : decode cX8_remember 16 = .ok (.putfield 52, 3) := by decide +kernel
theorem dX8_remember_19 : decode cX8_remember 19 = .ok (.iconst 0, 1) := by decide +kernel
theorem dX8_remember_20 : decode cX8_remember 20 = .ok (.istore_n 1, 1) := by decide +kernel
theorem dX8_remember_21 : decode cX8_remember 21 = .ok (.iload_n 1, 1) := by decide +kernel
theorem dX8_remember_22 : decode cX8_remember 22 = .ok (.sipush 1032, 3) := by decide +kernel
theorem dX8_remember_25 : decode cX8_remember 25 = .ok (.aload_n 0, 1) := by decide +kernel
theorem dX8_remember_26 : decode cX8_remember 26 = .ok (.getfield 52, 3) := by decide +kernel
theorem dX8_remember_29 : decode cX8_remember 29 = .ok (.imul, 1) := by decide +kernel
theorem dX8_remember_30 : decode cX8_remember 30 = .ok (.if_icmp .ge 25, 3) := by decide +kernel
theorem dX8_remember_33 : decode cX8_remember 33 = .ok (.aload_n 0, 1) := by decide +kernel
theorem dX8_remember_34 : decode cX8_remember 34 = .ok (.getfield 13, 3) := by decide +kernel
theorem dX8_remember_37 : decode cX8_remember 37 = .ok (.iload_n 1, 1) := by decide +kernel
theorem dX8_remember_38 : decode cX8_remember 38 = .ok (.aload_n 0, 1) := by decide +kernel
theorem dX8_remember_39 : decode cX8_remember 39 = .ok (.getfield 13, 3) := by decide +kernel
theorem dX8_remember_42 : decode cX8_remember 42 = .ok (.iload_n 1, 1) := by decide +kernel
theorem dX8_remember_43 : decode cX8_remember 43 = .ok (.sipush 1032, 3) := by decide +kernel
theorem dX8_remember_46 : decode cX8_remember 46 = .ok (.iadd, 1) := by decide +kernel
theorem dX8_remember_47 : decode cX8_remember 47 = .ok (.iaload, 1) := by decide +kernel
theorem dX8_remember_48 : decode cX8_remember 48 = .ok (.iastore, 1) := by decide +kernel
theorem dX8_remember_49 : decode cX8_remember 49 = .ok (.iinc 1 1, 3) := by decide +kernel
theorem dX8_remember_52 : decode cX8_remember 52 = .ok (.goto (-31), 3) := by decide +kernel
theorem dX8_remember_55 : decode cX8_remember 55 = .ok (.iconst 0, 1) := by decide +kernel
theorem dX8_remember_56 : decode cX8_remember 56 = .ok (.istore_n 1, 1) := by decide +kernel
theorem dX8_remember_57 : decode cX8_remember 57 = .ok (.iload_n 1, 1) := by decide +kernel
theorem dX8_remember_58 : decode cX8_remember 58 = .ok (.sipush 1032, 3) := by decide +kernel
theorem dX8_remember_61 : decode cX8_remember 61 = .ok (.if_icmp .ge 30, 3) := by decide +kernel
theorem dX8_remember_64 : decode cX8_remember 64 = .ok (.aload_n 0, 1) := by decide +kernel
theorem dX8_remember_65 : decode cX8_remember 65 = .ok (.getfield 13, 3) := by decide +kernel
theorem dX8_remember_68 : decode cX8_remember 68 = .ok (.sipush 1032, 3) := by decide +kernel
theorem dX8_remember_71 : decode cX8_remember 71 = .ok (.aload_n 0, 1) := by decide +kernel
theorem dX8_remember_72 : decode cX8_remember 72 = .ok (.getfield 52, 3) := by decide +kernel
theorem dX8_remember_75 : decode cX8_remember 75 = .ok (.imul, 1) := by decide +kernel
theorem dX8_remember_76 : decode cX8_remember 76 = .ok (.iload_n 1, 1) := by decide +kernel
theorem dX8_remember_77 : decode cX8_remember 77 = .ok (.iadd, 1) := by decide +kernel
theorem dX8_remember_78 : decode cX8_remember 78 = .ok (.aload_n 0, 1) := by decide +kernel
theorem dX8_remember_79 : decode cX8_remember 79 = .ok (.getfield 9, 3) := by decide +kernel
theorem dX8_remember_82 : decode cX8_remember 82 = .ok (.iload_n 1, 1) := by decide +kernel
theorem dX8_remember_83 : decode cX8_remember 83 = .ok (.iaload, 1) := by decide +kernel
theorem dX8_remember_84 : decode cX8_remember 84 = .ok (.iastore, 1) := by decide +kernel
theorem dX8_remember_85 : decode cX8_remember 85 = .ok (.iinc 1 1, 3) := by decide +kernel
theorem dX8_remember_88 : decode cX8_remember 88 = .ok (.goto (-31), 3) := by decide +kernel
theorem dX8_remember_91 : decode cX8_remember 91 = .ok (.aload_n 0, 1) := by decide +kernel
theorem dX8_remember_92 : decode cX8_remember 92 = .ok (.dup, 1) := by decide +kernel
theorem dX8_remember_93 : decode cX8_remember 93 = .ok (.getfield 52, 3) := by decide +kernel
theorem dX8_remember_96 : decode cX8_remember 96 = .ok (.iconst 1, 1) := by decide +kernel
theorem dX8_remember_97 : decode cX8_remember 97 = .ok (.iadd, 1) := by decide +kernel
theorem dX8_remember_98 : decode cX8_remember 98 = .ok (.putfield 52, 3) := by decide +kernel
theorem dX8_remember_101 : decode cX8_remember 101 = .ok (.return_, 1) := by decide +kernel
theorem dX8_l_0 : decode cX8_l 0 = .ok (.aload_n 0, 1) := by decide +kernel
theorem dX8_l_1 : decode cX8_l 1 = .ok (.getfield 9, 3) := by decide +kernel
theorem dX8_l_4 : decode cX8_l 4 = .ok (.bipush 8, 2) := by decide +kernel
theorem dX8_l_6 : decode cX8_l 6 = .ok (.bipush 25, 2) := by decide +kernel
theorem dX8_l_8 : decode cX8_l 8 = .ok (.iload_n 1, 1) := by decide +kernel
theorem dX8_l_9 : decode cX8_l 9 = .ok (.imul, 1) := by decide +kernel
theorem dX8_l_10 : decode cX8_l 10 = .ok (.iadd, 1) := by decide +kernel
theorem dX8_l_11 : decode cX8_l 11 = .ok (.iload_n 2, 1) := by decide +kernel
theorem dX8_l_12 : decode cX8_l 12 = .ok (.iadd, 1) := by decide +kernel
theorem dX8_l_13 : decode cX8_l 13 = .ok (.iaload, 1) := by decide +kernel
theorem dX8_l_14 : decode cX8_l 14 = .ok (.ireturn, 1) := by decide +kernel
theorem dX8_setL_0 : decode cX8_setL 0 = .ok (.aload_n 0, 1) := by decide +kernel
theorem dX8_setL_1 : decode cX8_setL 1 = .ok (.getfield 9, 3) := by decide +kernel
theorem dX8_setL_4 : decode cX8_setL 4 = .ok (.bipush 8, 2) := by decide +kernel
theorem dX8_setL_6 : decode cX8_setL 6 = .ok (.bipush 25, 2) := by decide +kernel
theorem dX8_setL_8 : decode cX8_setL 8 = .ok (.iload_n 1, 1) := by decide +kernel
theorem dX8_setL_9 : decode cX8_setL 9 = .ok (.imul, 1) := by decide +kernel
theorem dX8_setL_10 : decode cX8_setL 10 = .ok (.iadd, 1) := by decide +kernel
theorem dX8_setL_11 : decode cX8_setL 11 = .ok (.iload_n 2, 1) := by decide +kernel
theorem dX8_setL_12 : decode cX8_setL 12 = .ok (.iadd, 1) := by decide +kernel
theorem dX8_setL_13 : decode cX8_setL 13 = .ok (.iload_n 3, 1) := by decide +kernel
theorem dX8_setL_14 : decode cX8_setL 14 = .ok (.iastore, 1) := by decide +kernel
theorem dX8_setL_15 : decode cX8_setL 15 = .ok (.return_, 1) := by decide +kernel
theorem dX8_isLot_0 : decode cX8_isLot 0 = .ok (.iload_n 1, 1) := by decide +kernel
theorem dX8_isLot_1 : decode cX8_isLot 1 = .ok (.iconst 0, 1) := by decide +kernel
theorem dX8_isLot_2 : decode cX8_isLot 2 = .ok (.aload_n 0, 1) := by decide +kernel
theorem dX8_isLot_3 : decode cX8_isLot 3 = .ok (.getfield 9, 3) := by decide +kernel
theorem dX8_isLot_6 : decode cX8_isLot 6 = .ok (.iconst 0, 1) := by decide +kernel
theorem dX8_isLot_7 : decode cX8_isLot 7 = .ok (.iaload, 1) := by decide +kernel
theorem dX8_isLot_8 : decode cX8_isLot 8 = .ok (.iconst 1, 1) := by decide +kernel
theorem dX8_isLot_9 : decode cX8_isLot 9 = .ok (.isub, 1) := by decide +kernel
theorem dX8_isLot_10 : decode cX8_isLot 10 = .ok (.invokestatic 55, 3) := by decide +kernel
theorem dX8_isLot_13 : decode cX8_isLot 13 = .ok (.ireturn, 1) := by decide +kernel
theorem dX8_h_0 : decode cX8_h 0 = .ok (.aload_n 0, 1) := by decide +kernel
theorem dX8_h_1 : decode cX8_h 1 = .ok (.getfield 9, 3) := by decide +kernel
theorem dX8_h_4 : decode cX8_h 4 = .ok (.sipush 608, 3) := by decide +kernel
theorem dX8_h_7 : decode cX8_h 7 = .ok (.iconst 4, 1) := by decide +kernel
theorem dX8_h_8 : decode cX8_h 8 = .ok (.iload_n 1, 1) := by decide +kernel
theorem dX8_h_9 : decode cX8_h 9 = .ok (.imul, 1) := by decide +kernel
theorem dX8_h_10 : decode cX8_h 10 = .ok (.iadd, 1) := by decide +kernel
theorem dX8_h_11 : decode cX8_h 11 = .ok (.iload_n 2, 1) := by decide +kernel
theorem dX8_h_12 : decode cX8_h 12 = .ok (.iadd, 1) := by decide +kernel
theorem dX8_h_13 : decode cX8_h 13 = .ok (.iaload, 1) := by decide +kernel
theorem dX8_h_14 : decode cX8_h 14 = .ok (.ireturn, 1) := by decide +kernel
theorem dX8_comes_0 : decode cX8_comes 0 = .ok (.aload_n 0, 1) := by decide +kernel
theorem dX8_comes_1 : decode cX8_comes 1 = .ok (.getfield 9, 3) := by decide +kernel
theorem dX8_comes_4 : decode cX8_comes 4 = .ok (.iconst 0, 1) := by decide +kernel
theorem dX8_comes_5 : decode cX8_comes 5 = .ok (.iaload, 1) := by decide +kernel
theorem dX8_comes_6 : decode cX8_comes 6 = .ok (.istore 4, 2) := by decide +kernel
theorem dX8_comes_8 : decode cX8_comes 8 = .ok (.iconst 0, 1) := by decide +kernel
theorem dX8_comes_9 : decode cX8_comes 9 = .ok (.istore 5, 2) := by decide +kernel
theorem dX8_comes_11 : decode cX8_comes 11 = .ok (.iload 5, 2) := by decide +kernel
theorem dX8_comes_13 : decode cX8_comes 13 = .ok (.bipush 25, 2) := by decide +kernel
theorem dX8_comes_15 : decode cX8_comes 15 = .ok (.if_icmp .ge 18, 3) := by decide +kernel
theorem dX8_comes_18 : decode cX8_comes 18 = .ok (.aload_n 0, 1) := by decide +kernel
theorem dX8_comes_19 : decode cX8_comes 19 = .ok (.iload 4, 2) := by decide +kernel
theorem dX8_comes_21 : decode cX8_comes 21 = .ok (.iload 5, 2) := by decide +kernel
theorem dX8_comes_23 : decode cX8_comes 23 = .ok (.iconst 0, 1) := by decide +kernel
theorem dX8_comes_24 : decode cX8_comes 24 = .ok (.invokevirtual 59, 3) := by decide +kernel
theorem dX8_comes_27 : decode cX8_comes 27 = .ok (.iinc 5 1, 3) := by decide +kernel
theorem dX8_comes_30 : decode cX8_comes 30 = .ok (.goto (-19), 3) := by decide +kernel
theorem dX8_comes_33 : decode cX8_comes 33 = .ok (.aload_n 0, 1) := by decide +kernel
theorem dX8_comes_34 : decode cX8_comes 34 = .ok (.iload 4, 2) := by decide +kernel
theorem dX8_comes_36 : decode cX8_comes 36 = .ok (.iconst 0, 1) := by decide +kernel
theorem dX8_comes_37 : decode cX8_comes 37 = .ok (.iload_n 1, 1) := by decide +kernel
theorem dX8_comes_38 : decode cX8_comes 38 = .ok (.invokevirtual 59, 3) := by decide +kernel
theorem dX8_comes_41 : decode cX8_comes 41 = .ok (.aload_n 0, 1) := by decide +kernel
theorem dX8_comes_42 : decode cX8_comes 42 = .ok (.iload 4, 2) := by decide +kernel
theorem dX8_comes_44 : decode cX8_comes 44 = .ok (.iconst 1, 1) := by decide +kernel
theorem dX8_comes_45 : decode cX8_comes 45 = .ok (.iload_n 1, 1) := by decide +kernel
theorem dX8_comes_46 : decode cX8_comes 46 = .ok (.invokevirtual 59, 3) := by decide +kernel
theorem dX8_comes_49 : decode cX8_comes 49 = .ok (.aload_n 0, 1) := by decide +kernel
theorem dX8_comes_50 : decode cX8_comes 50 = .ok (.iload 4, 2) := by decide +kernel
theorem dX8_comes_52 : decode cX8_comes 52 = .ok (.iconst 3, 1) := by decide +kernel
theorem dX8_comes_53 : decode cX8_comes 53 = .ok (.iload_n 2, 1) := by decide +kernel
theorem dX8_comes_54 : decode cX8_comes 54 = .ok (.invokevirtual 59, 3) := by decide +kernel
theorem dX8_comes_57 : decode cX8_comes 57 = .ok (.aload_n 0, 1) := by decide +kernel
theorem dX8_comes_58 : decode cX8_comes 58 = .ok (.iload 4, 2) := by decide +kernel
theorem dX8_comes_60 : decode cX8_comes 60 = .ok (.iconst 4, 1) := by decide +kernel
theorem dX8_comes_61 : decode cX8_comes 61 = .ok (.iload_n 3, 1) := by decide +kernel
theorem dX8_comes_62 : decode cX8_comes 62 = .ok (.invokevirtual 59, 3) := by decide +kernel
theorem dX8_comes_65 : decode cX8_comes 65 = .ok (.aload_n 0, 1) := by decide +kernel
theorem dX8_comes_66 : decode cX8_comes 66 = .ok (.getfield 9, 3) := by decide +kernel
theorem dX8_comes_69 : decode cX8_comes 69 = .ok (.iconst 0, 1) := by decide +kernel
theorem dX8_comes_70 : decode cX8_comes 70 = .ok (.dup2, 1) := by decide +kernel
theorem dX8_comes_71 : decode cX8_comes 71 = .ok (.iaload, 1) := by decide +kernel
theorem dX8_comes_72 : decode cX8_comes 72 = .ok (.iconst 1, 1) := by decide +kernel
theorem dX8_comes_73 : decode cX8_comes 73 = .ok (.iadd, 1) := by decide +kernel
theorem dX8_comes_74 : decode cX8_comes 74 = .ok (.iastore, 1) := by decide +kernel
theorem dX8_comes_75 : decode cX8_comes 75 = .ok (.iload 4, 2) := by decide +kernel
theorem dX8_comes_77 : decode cX8_comes 77 = .ok (.ireturn, 1) := by decide +kernel
theorem dX8_harvest_0 : decode cX8_harvest 0 = .ok (.aload_n 0, 1) := by decide +kernel
theorem dX8_harvest_1 : decode cX8_harvest 1 = .ok (.iconst 0, 1) := by decide +kernel
theorem dX8_harvest_2 : decode cX8_harvest 2 = .ok (.putfield 42, 3) := by decide +kernel
theorem dX8_harvest_5 : decode cX8_harvest 5 = .ok (.iload_n 1, 1) := by decide +kernel
theorem dX8_harvest_6 : decode cX8_harvest 6 = .ok (.iconst 0, 1) := by decide +kernel
theorem dX8_harvest_7 : decode cX8_harvest 7 = .ok (.bipush 99, 2) := by decide +kernel
theorem dX8_harvest_9 : decode cX8_harvest 9 = .ok (.invokestatic 55, 3) := by decide +kernel
theorem dX8_harvest_12 : decode cX8_harvest 12 = .ok (.ifCond .eq 33, 3) := by decide +kernel
theorem dX8_harvest_15 : decode cX8_harvest 15 = .ok (.iload_n 2, 1) := by decide +kernel
theorem dX8_harvest_16 : decode cX8_harvest 16 = .ok (.iconst 0, 1) := by decide +kernel
theorem dX8_harvest_17 : decode cX8_harvest 17 = .ok (.iconst 4, 1) := by decide +kernel
theorem dX8_harvest_18 : decode cX8_harvest 18 = .ok (.invokestatic 55, 3) := by decide +kernel
theorem dX8_harvest_21 : decode cX8_harvest 21 = .ok (.ifCond .eq 24, 3) := by decide +kernel
theorem dX8_harvest_24 : decode cX8_harvest 24 = .ok (.iload_n 3, 1) := by decide +kernel
theorem dX8_harvest_25 : decode cX8_harvest 25 = .ok (.iconst 0, 1) := by decide +kernel
theorem dX8_harvest_26 : decode cX8_harvest 26 = .ok (.iconst 3, 1) := by decide +kernel
theorem dX8_harvest_27 : decode cX8_harvest 27 = .ok (.invokestatic 55, 3) := by decide +kernel
theorem dX8_harvest_30 : decode cX8_harvest 30 = .ok (.ifCond .eq 15, 3) := by decide +kernel
theorem dX8_harvest_33 : decode cX8_harvest 33 = .ok (.iload 4, 2) := by decide +kernel
theorem dX8_harvest_35 : decode cX8_harvest 35 = .ok (.iconst 1, 1) := by decide +kernel
theorem dX8_harvest_36 : decode cX8_harvest 36 = .ok (.sipush 9999, 3) := by decide +kernel
theorem dX8_harvest_39 : decode cX8_harvest 39 = .ok (.invokestatic 55, 3) := by decide +kernel
theorem dX8_harvest_42 : decode cX8_harvest 42 = .ok (.ifCond .ne 9, 3) := by decide +kernel
theorem dX8_harvest_45 : decode cX8_harvest 45 = .ok (.aload_n 0, 1) := by decide +kernel
theorem dX8_harvest_46 : decode cX8_harvest 46 = .ok (.iconst 1, 1) := by decide +kernel
theorem dX8_harvest_47 : decode cX8_harvest 47 = .ok (.invokevirtual 48, 3) := by decide +kernel
theorem dX8_harvest_50 : decode cX8_harvest 50 = .ok (.ireturn, 1) := by decide +kernel
theorem dX8_harvest_51 : decode cX8_harvest 51 = .ok (.aload_n 0, 1) := by decide +kernel
theorem dX8_harvest_52 : decode cX8_harvest 52 = .ok (.getfield 9, 3) := by decide +kernel
theorem dX8_harvest_55 : decode cX8_harvest 55 = .ok (.iconst 0, 1) := by decide +kernel
theorem dX8_harvest_56 : decode cX8_harvest 56 = .ok (.iaload, 1) := by decide +kernel
theorem dX8_harvest_57 : decode cX8_harvest 57 = .ok (.bipush 24, 2) := by decide +kernel
theorem dX8_harvest_59 : decode cX8_harvest 59 = .ok (.if_icmp .eq 14, 3) := by decide +kernel
theorem dX8_harvest_62 : decode cX8_harvest 62 = .ok (.aload_n 0, 1) := by decide +kernel
theorem dX8_harvest_63 : decode cX8_harvest 63 = .ok (.getfield 9, 3) := by decide +kernel
theorem dX8_harvest_66 : decode cX8_harvest 66 = .ok (.iconst 1, 1) := by decide +kernel
theorem dX8_harvest_67 : decode cX8_harvest 67 = .ok (.iaload, 1) := by decide +kernel
theorem dX8_harvest_68 : decode cX8_harvest 68 = .ok (.bipush 12, 2) := by decide +kernel
theorem dX8_harvest_70 : decode cX8_harvest 70 = .ok (.if_icmp .ne 9, 3) := by decide +kernel
theorem dX8_harvest_73 : decode cX8_harvest 73 = .ok (.aload_n 0, 1) := by decide +kernel
theorem dX8_harvest_74 : decode cX8_harvest 74 = .ok (.iconst 2, 1) := by decide +kernel
theorem dX8_harvest_75 : decode cX8_harvest 75 = .ok (.invokevirtual 48, 3) := by decide +kernel
theorem dX8_harvest_78 : decode cX8_harvest 78 = .ok (.ireturn, 1) := by decide +kernel
theorem dX8_harvest_79 : decode cX8_harvest 79 = .ok (.aload_n 0, 1) := by decide +kernel
theorem dX8_harvest_80 : decode cX8_harvest 80 = .ok (.invokevirtual 63, 3) := by decide +kernel
theorem dX8_harvest_83 : decode cX8_harvest 83 = .ok (.aload_n 0, 1) := by decide +kernel
theorem dX8_harvest_84 : decode cX8_harvest 84 = .ok (.getfield 9, 3) := by decide +kernel
theorem dX8_harvest_87 : decode cX8_harvest 87 = .ok (.iconst 1, 1) := by decide +kernel
theorem dX8_harvest_88 : decode cX8_harvest 88 = .ok (.iaload, 1) := by decide +kernel
theorem dX8_harvest_89 : decode cX8_harvest 89 = .ok (.istore 5, 2) := by decide +kernel
theorem dX8_harvest_91 : decode cX8_harvest 91 = .ok (.aload_n 0, 1) := by decide +kernel
theorem dX8_harvest_92 : decode cX8_harvest 92 = .ok (.getfield 9, 3) := by decide +kernel
theorem dX8_harvest_95 : decode cX8_harvest 95 = .ok (.sipush 608, 3) := by decide +kernel
theorem dX8_harvest_98 : decode cX8_harvest 98 = .ok (.iconst 4, 1) := by decide +kernel
theorem dX8_harvest_99 : decode cX8_harvest 99 = .ok (.iload 5, 2) := by decide +kernel
theorem dX8_harvest_101 : decode cX8_harvest 101 = .ok (.imul, 1) := by decide +kernel
theorem dX8_harvest_102 : decode cX8_harvest 102 = .ok (.iadd, 1) := by decide +kernel
theorem dX8_harvest_103 : decode cX8_harvest 103 = .ok (.iload_n 1, 1) := by decide +kernel
theorem dX8_harvest_104 : decode cX8_harvest 104 = .ok (.iastore, 1) := by decide +kernel
theorem dX8_harvest_105 : decode cX8_harvest 105 = .ok (.aload_n 0, 1) := by decide +kernel
theorem dX8_harvest_106 : decode cX8_harvest 106 = .ok (.getfield 9, 3) := by decide +kernel
theorem dX8_harvest_109 : decode cX8_harvest 109 = .ok (.sipush 608, 3) := by decide +kernel
theorem dX8_harvest_112 : decode cX8_harvest 112 = .ok (.iconst 4, 1) := by decide +kernel
theorem dX8_harvest_113 : decode cX8_harvest 113 = .ok (.iload 5, 2) := by decide +kernel
theorem dX8_harvest_115 : decode cX8_harvest 115 = .ok (.imul, 1) := by decide +kernel
theorem dX8_harvest_116 : decode cX8_harvest 116 = .ok (.iadd, 1) := by decide +kernel
theorem dX8_harvest_117 : decode cX8_harvest 117 = .ok (.iconst 1, 1) := by decide +kernel
theorem dX8_harvest_118 : decode cX8_harvest 118 = .ok (.iadd, 1) := by decide +kernel
theorem dX8_harvest_119 : decode cX8_harvest 119 = .ok (.iload_n 2, 1) := by decide +kernel
theorem dX8_harvest_120 : decode cX8_harvest 120 = .ok (.iastore, 1) := by decide +kernel
theorem dX8_harvest_121 : decode cX8_harvest 121 = .ok (.aload_n 0, 1) := by decide +kernel
theorem dX8_harvest_122 : decode cX8_harvest 122 = .ok (.getfield 9, 3) := by decide +kernel
theorem dX8_harvest_125 : decode cX8_harvest 125 = .ok (.sipush 608, 3) := by decide +kernel
theorem dX8_harvest_128 : decode cX8_harvest 128 = .ok (.iconst 4, 1) := by decide +kernel
theorem dX8_harvest_129 : decode cX8_harvest 129 = .ok (.iload 5, 2) := by decide +kernel
theorem dX8_harvest_131 : decode cX8_harvest 131 = .ok (.imul, 1) := by decide +kernel
theorem dX8_harvest_132 : decode cX8_harvest 132 = .ok (.iadd, 1) := by decide +kernel
theorem dX8_harvest_133 : decode cX8_harvest 133 = .ok (.iconst 2, 1) := by decide +kernel
theorem dX8_harvest_134 : decode cX8_harvest 134 = .ok (.iadd, 1) := by decide +kernel
theorem dX8_harvest_135 : decode cX8_harvest 135 = .ok (.iload_n 3, 1) := by decide +kernel
theorem dX8_harvest_136 : decode cX8_harvest 136 = .ok (.iastore, 1) := by decide +kernel
theorem dX8_harvest_137 : decode cX8_harvest 137 = .ok (.aload_n 0, 1) := by decide +kernel
theorem dX8_harvest_138 : decode cX8_harvest 138 = .ok (.getfield 9, 3) := by decide +kernel
theorem dX8_harvest_141 : decode cX8_harvest 141 = .ok (.sipush 608, 3) := by decide +kernel
theorem dX8_harvest_144 : decode cX8_harvest 144 = .ok (.iconst 4, 1) := by decide +kernel
theorem dX8_harvest_145 : decode cX8_harvest 145 = .ok (.iload 5, 2) := by decide +kernel
theorem dX8_harvest_147 : decode cX8_harvest 147 = .ok (.imul, 1) := by decide +kernel
theorem dX8_harvest_148 : decode cX8_harvest 148 = .ok (.iadd, 1) := by decide +kernel
theorem dX8_harvest_149 : decode cX8_harvest 149 = .ok (.iconst 3, 1) := by decide +kernel
theorem dX8_harvest_150 : decode cX8_harvest 150 = .ok (.iadd, 1) := by decide +kernel
theorem dX8_harvest_151 : decode cX8_harvest 151 = .ok (.iload 4, 2) := by decide +kernel
theorem dX8_harvest_153 : decode cX8_harvest 153 = .ok (.iastore, 1) := by decide +kernel
theorem dX8_harvest_154 : decode cX8_harvest 154 = .ok (.aload_n 0, 1) := by decide +kernel
theorem dX8_harvest_155 : decode cX8_harvest 155 = .ok (.getfield 9, 3) := by decide +kernel
theorem dX8_harvest_158 : decode cX8_harvest 158 = .ok (.iconst 1, 1) := by decide +kernel
theorem dX8_harvest_159 : decode cX8_harvest 159 = .ok (.dup2, 1) := by decide +kernel
theorem dX8_harvest_160 : decode cX8_harvest 160 = .ok (.iaload, 1) := by decide +kernel
theorem dX8_harvest_161 : decode cX8_harvest 161 = .ok (.iconst 1, 1) := by decide +kernel
theorem dX8_harvest_162 : decode cX8_harvest 162 = .ok (.iadd, 1) := by decide +kernel
theorem dX8_harvest_163 : decode cX8_harvest 163 = .ok (.iastore, 1) := by decide +kernel
theorem dX8_harvest_164 : decode cX8_harvest 164 = .ok (.aload_n 0, 1) := by decide +kernel
theorem dX8_harvest_165 : decode cX8_harvest 165 = .ok (.iload 4, 2) := by decide +kernel
theorem dX8_harvest_167 : decode cX8_harvest 167 = .ok (.iconst 0, 1) := by decide +kernel
theorem dX8_harvest_168 : decode cX8_harvest 168 = .ok (.iload 5, 2) := by decide +kernel
theorem dX8_harvest_170 : decode cX8_harvest 170 = .ok (.invokevirtual 66, 3) := by decide +kernel
theorem dX8_harvest_173 : decode cX8_harvest 173 = .ok (.istore 6, 2) := by decide +kernel
theorem dX8_harvest_175 : decode cX8_harvest 175 = .ok (.aload_n 0, 1) := by decide +kernel
theorem dX8_harvest_176 : decode cX8_harvest 176 = .ok (.iload 6, 2) := by decide +kernel
theorem dX8_harvest_178 : decode cX8_harvest 178 = .ok (.bipush 13, 2) := by decide +kernel
theorem dX8_harvest_180 : decode cX8_harvest 180 = .ok (.iload 5, 2) := by decide +kernel
theorem dX8_harvest_182 : decode cX8_harvest 182 = .ok (.iadd, 1) := by decide +kernel
theorem dX8_harvest_183 : decode cX8_harvest 183 = .ok (.sipush 1000, 3) := by decide +kernel
theorem dX8_harvest_186 : decode cX8_harvest 186 = .ok (.invokevirtual 59, 3) := by decide +kernel
theorem dX8_harvest_189 : decode cX8_harvest 189 = .ok (.iload 6, 2) := by decide +kernel
theorem dX8_harvest_191 : decode cX8_harvest 191 = .ok (.ireturn, 1) := by decide +kernel
theorem dX8_isDigit_0 : decode cX8_isDigit 0 = .ok (.aload_n 0, 1) := by decide +kernel
theorem dX8_isDigit_1 : decode cX8_isDigit 1 = .ok (.getfield 70, 3) := by decide +kernel
theorem dX8_isDigit_4 : decode cX8_isDigit 4 = .ok (.ifCond .ne 37, 3) := by decide +kernel
theorem dX8_isDigit_7 : decode cX8_isDigit 7 = .ok (.aload_n 0, 1) := by decide +kernel
theorem dX8_isDigit_8 : decode cX8_isDigit 8 = .ok (.getfield 74, 3) := by decide +kernel
theorem dX8_isDigit_11 : decode cX8_isDigit 11 = .ok (.aload_n 0, 1) := by decide +kernel
theorem dX8_isDigit_12 : decode cX8_isDigit 12 = .ok (.getfield 77, 3) := by decide +kernel
theorem dX8_isDigit_15 : decode cX8_isDigit 15 = .ok (.if_icmp .ge 26, 3) := by decide +kernel
theorem dX8_isDigit_18 : decode cX8_isDigit 18 = .ok (.aload_n 0, 1) := by decide +kernel
theorem dX8_isDigit_19 : decode cX8_isDigit 19 = .ok (.getfield 23, 3) := by decide +kernel
theorem dX8_isDigit_22 : decode cX8_isDigit 22 = .ok (.aload_n 0, 1) := by decide +kernel
theorem dX8_isDigit_23 : decode cX8_isDigit 23 = .ok (.getfield 74, 3) := by decide +kernel
theorem dX8_isDigit_26 : decode cX8_isDigit 26 = .ok (.caload, 1) := by decide +kernel
theorem dX8_isDigit_27 : decode cX8_isDigit 27 = .ok (.bipush 48, 2) := by decide +kernel
theorem dX8_isDigit_29 : decode cX8_isDigit 29 = .ok (.bipush 57, 2) := by decide +kernel
theorem dX8_isDigit_31 : decode cX8_isDigit 31 = .ok (.invokestatic 55, 3) := by decide +kernel
theorem dX8_isDigit_34 : decode cX8_isDigit 34 = .ok (.ifCond .eq 7, 3) := by decide +kernel
theorem dX8_isDigit_37 : decode cX8_isDigit 37 = .ok (.iconst 1, 1) := by decide +kernel
theorem dX8_isDigit_38 : decode cX8_isDigit 38 = .ok (.goto 4, 3) := by decide +kernel
theorem dX8_isDigit_41 : decode cX8_isDigit 41 = .ok (.iconst 0, 1) := by decide +kernel
theorem dX8_isDigit_42 : decode cX8_isDigit 42 = .ok (.ireturn, 1) := by decide +kernel
theorem dX8_number_0 : decode cX8_number 0 = .ok (.aload_n 0, 1) := by decide +kernel
theorem dX8_number_1 : decode cX8_number 1 = .ok (.invokevirtual 80, 3) := by decide +kernel
theorem dX8_number_4 : decode cX8_number 4 = .ok (.ifCond .ne 10, 3) := by decide +kernel
theorem dX8_number_7 : decode cX8_number 7 = .ok (.aload_n 0, 1) := by decide +kernel
theorem dX8_number_8 : decode cX8_number 8 = .ok (.iconst 1, 1) := by decide +kernel
theorem dX8_number_9 : decode cX8_number 9 = .ok (.putfield 70, 3) := by decide +kernel
theorem dX8_number_12 : decode cX8_number 12 = .ok (.iconst 0, 1) := by decide +kernel
theorem dX8_number_13 : decode cX8_number 13 = .ok (.ireturn, 1) := by decide +kernel
theorem dX8_number_14 : decode cX8_number 14 = .ok (.aload_n 0, 1) := by decide +kernel
theorem dX8_number_15 : decode cX8_number 15 = .ok (.getfield 23, 3) := by decide +kernel
theorem dX8_number_18 : decode cX8_number 18 = .ok (.aload_n 0, 1) := by decide +kernel
theorem dX8_number_19 : decode cX8_number 19 = .ok (.getfield 74, 3) := by decide +kernel
theorem dX8_number_22 : decode cX8_number 22 = .ok (.caload, 1) := by decide +kernel
theorem dX8_number_23 : decode cX8_number 23 = .ok (.bipush 48, 2) := by decide +kernel
theorem dX8_number_25 : decode cX8_number 25 = .ok (.isub, 1) := by decide +kernel
theorem dX8_number_26 : decode cX8_number 26 = .ok (.istore_n 1, 1) := by decide +kernel
theorem dX8_number_27 : decode cX8_number 27 = .ok (.aload_n 0, 1) := by decide +kernel
theorem dX8_number_28 : decode cX8_number 28 = .ok (.dup, 1) := by decide +kernel
theorem dX8_number_29 : decode cX8_number 29 = .ok (.getfield 74, 3) := by decide +kernel
theorem dX8_number_32 : decode cX8_number 32 = .ok (.iconst 1, 1) := by decide +kernel
theorem dX8_number_33 : decode cX8_number 33 = .ok (.iadd, 1) := by decide +kernel
theorem dX8_number_34 : decode cX8_number 34 = .ok (.putfield 74, 3) := by decide +kernel
theorem dX8_number_37 : decode cX8_number 37 = .ok (.iconst 1, 1) := by decide +kernel
theorem dX8_number_38 : decode cX8_number 38 = .ok (.istore_n 2, 1) := by decide +kernel
theorem dX8_number_39 : decode cX8_number 39 = .ok (.iload_n 2, 1) := by decide +kernel
theorem dX8_number_40 : decode cX8_number 40 = .ok (.iconst 4, 1) := by decide +kernel
theorem dX8_number_41 : decode cX8_number 41 = .ok (.if_icmp .ge 48, 3) := by decide +kernel
theorem dX8_number_44 : decode cX8_number 44 = .ok (.iload_n 1, 1) := by decide +kernel
theorem dX8_number_45 : decode cX8_number 45 = .ok (.ifCond .le 44, 3) := by decide +kernel
theorem dX8_number_48 : decode cX8_number 48 = .ok (.aload_n 0, 1) := by decide +kernel
theorem dX8_number_49 : decode cX8_number 49 = .ok (.invokevirtual 80, 3) := by decide +kernel
theorem dX8_number_52 : decode cX8_number 52 = .ok (.ifCond .eq 37, 3) := by decide +kernel
theorem dX8_number_55 : decode cX8_number 55 = .ok (.bipush 10, 2) := by decide +kernel
theorem dX8_number_57 : decode cX8_number 57 = .ok (.iload_n 1, 1) := by decide +kernel
theorem dX8_number_58 : decode cX8_number 58 = .ok (.imul, 1) := by decide +kernel
theorem dX8_number_59 : decode cX8_number 59 = .ok (.aload_n 0, 1) := by decide +kernel
theorem dX8_number_60 : decode cX8_number 60 = .ok (.getfield 23, 3) := by decide +kernel
theorem dX8_number_63 : decode cX8_number 63 = .ok (.aload_n 0, 1) := by decide +kernel
theorem dX8_number_64 : decode cX8_number 64 = .ok (.getfield 74, 3) := by decide +kernel
theorem dX8_number_67 : decode cX8_number 67 = .ok (.caload, 1) := by decide +kernel
theorem dX8_number_68 : decode cX8_number 68 = .ok (.iadd, 1) := by decide +kernel
theorem dX8_number_69 : decode cX8_number 69 = .ok (.bipush 48, 2) := by decide +kernel
theorem dX8_number_71 : decode cX8_number 71 = .ok (.isub, 1) := by decide +kernel
theorem dX8_number_72 : decode cX8_number 72 = .ok (.istore_n 1, 1) := by decide +kernel
theorem dX8_number_73 : decode cX8_number 73 = .ok (.aload_n 0, 1) := by decide +kernel
theorem dX8_number_74 : decode cX8_number 74 = .ok (.dup, 1) := by decide +kernel
theorem dX8_number_75 : decode cX8_number 75 = .ok (.getfield 74, 3) := by decide +kernel
theorem dX8_number_78 : decode cX8_number 78 = .ok (.iconst 1, 1) := by decide +kernel
theorem dX8_number_79 : decode cX8_number 79 = .ok (.iadd, 1) := by decide +kernel
theorem dX8_number_80 : decode cX8_number 80 = .ok (.putfield 74, 3) := by decide +kernel
theorem dX8_number_83 : decode cX8_number 83 = .ok (.iinc 2 1, 3) := by decide +kernel
theorem dX8_number_86 : decode cX8_number 86 = .ok (.goto (-47), 3) := by decide +kernel
theorem dX8_number_89 : decode cX8_number 89 = .ok (.iload_n 1, 1) := by decide +kernel
theorem dX8_number_90 : decode cX8_number 90 = .ok (.ireturn, 1) := by decide +kernel
theorem dX8_goesOn_0 : decode cX8_goesOn 0 = .ok (.aload_n 0, 1) := by decide +kernel
theorem dX8_goesOn_1 : decode cX8_goesOn 1 = .ok (.getfield 70, 3) := by decide +kernel
theorem dX8_goesOn_4 : decode cX8_goesOn 4 = .ok (.ifCond .ne 31, 3) := by decide +kernel
theorem dX8_goesOn_7 : decode cX8_goesOn 7 = .ok (.aload_n 0, 1) := by decide +kernel
theorem dX8_goesOn_8 : decode cX8_goesOn 8 = .ok (.getfield 74, 3) := by decide +kernel
theorem dX8_goesOn_11 : decode cX8_goesOn 11 = .ok (.aload_n 0, 1) := by decide +kernel
theorem dX8_goesOn_12 : decode cX8_goesOn 12 = .ok (.getfield 77, 3) := by decide +kernel
theorem dX8_goesOn_15 : decode cX8_goesOn 15 = .ok (.if_icmp .ge 20, 3) := by decide +kernel
theorem dX8_goesOn_18 : decode cX8_goesOn 18 = .ok (.aload_n 0, 1) := by decide +kernel
theorem dX8_goesOn_19 : decode cX8_goesOn 19 = .ok (.getfield 23, 3) := by decide +kernel
theorem dX8_goesOn_22 : decode cX8_goesOn 22 = .ok (.aload_n 0, 1) := by decide +kernel
theorem dX8_goesOn_23 : decode cX8_goesOn 23 = .ok (.getfield 74, 3) := by decide +kernel
theorem dX8_goesOn_26 : decode cX8_goesOn 26 = .ok (.caload, 1) := by decide +kernel
theorem dX8_goesOn_27 : decode cX8_goesOn 27 = .ok (.iload_n 1, 1) := by decide +kernel
theorem dX8_goesOn_28 : decode cX8_goesOn 28 = .ok (.if_icmp .ne 7, 3) := by decide +kernel
theorem dX8_goesOn_31 : decode cX8_goesOn 31 = .ok (.iconst 1, 1) := by decide +kernel
theorem dX8_goesOn_32 : decode cX8_goesOn 32 = .ok (.goto 4, 3) := by decide +kernel
theorem dX8_goesOn_35 : decode cX8_goesOn 35 = .ok (.iconst 0, 1) := by decide +kernel
theorem dX8_goesOn_36 : decode cX8_goesOn 36 = .ok (.istore_n 2, 1) := by decide +kernel
theorem dX8_goesOn_37 : decode cX8_goesOn 37 = .ok (.aload_n 0, 1) := by decide +kernel
theorem dX8_goesOn_38 : decode cX8_goesOn 38 = .ok (.dup, 1) := by decide +kernel
theorem dX8_goesOn_39 : decode cX8_goesOn 39 = .ok (.getfield 74, 3) := by decide +kernel
theorem dX8_goesOn_42 : decode cX8_goesOn 42 = .ok (.iload_n 2, 1) := by decide +kernel
theorem dX8_goesOn_43 : decode cX8_goesOn 43 = .ok (.ifCond .eq 7, 3) := by decide +kernel
theorem dX8_goesOn_46 : decode cX8_goesOn 46 = .ok (.iconst 1, 1) := by decide +kernel
theorem dX8_goesOn_47 : decode cX8_goesOn 47 = .ok (.goto 4, 3) := by decide +kernel
theorem dX8_goesOn_50 : decode cX8_goesOn 50 = .ok (.iconst 0, 1) := by decide +kernel
theorem dX8_goesOn_51 : decode cX8_goesOn 51 = .ok (.iadd, 1) := by decide +kernel
theorem dX8_goesOn_52 : decode cX8_goesOn 52 = .ok (.putfield 74, 3) := by decide +kernel
theorem dX8_goesOn_55 : decode cX8_goesOn 55 = .ok (.iload_n 2, 1) := by decide +kernel
theorem dX8_goesOn_56 : decode cX8_goesOn 56 = .ok (.ireturn, 1) := by decide +kernel
theorem dX8_readsPart_0 : decode cX8_readsPart 0 = .ok (.aload_n 0, 1) := by decide +kernel
theorem dX8_readsPart_1 : decode cX8_readsPart 1 = .ok (.invokevirtual 84, 3) := by decide +kernel
theorem dX8_readsPart_4 : decode cX8_readsPart 4 = .ok (.istore_n 1, 1) := by decide +kernel
theorem dX8_readsPart_5 : decode cX8_readsPart 5 = .ok (.aload_n 0, 1) := by decide +kernel
theorem dX8_readsPart_6 : decode cX8_readsPart 6 = .ok (.aload_n 0, 1) := by decide +kernel
theorem dX8_readsPart_7 : decode cX8_readsPart 7 = .ok (.getfield 70, 3) := by decide +kernel
theorem dX8_readsPart_10 : decode cX8_readsPart 10 = .ok (.ifCond .ne 12, 3) := by decide +kernel
theorem dX8_readsPart_13 : decode cX8_readsPart 13 = .ok (.aload_n 0, 1) := by decide +kernel
theorem dX8_readsPart_14 : decode cX8_readsPart 14 = .ok (.bipush 58, 2) := by decide +kernel
theorem dX8_readsPart_16 : decode cX8_readsPart 16 = .ok (.invokevirtual 88, 3) := by decide +kernel
theorem dX8_readsPart_19 : decode cX8_readsPart 19 = .ok (.ifCond .ne 7, 3) := by decide +kernel
theorem dX8_readsPart_22 : decode cX8_readsPart 22 = .ok (.iconst 1, 1) := by decide +kernel
theorem dX8_readsPart_23 : decode cX8_readsPart 23 = .ok (.goto 4, 3) := by decide +kernel
theorem dX8_readsPart_26 : decode cX8_readsPart 26 = .ok (.iconst 0, 1) := by decide +kernel
theorem dX8_readsPart_27 : decode cX8_readsPart 27 = .ok (.putfield 70, 3) := by decide +kernel
theorem dX8_readsPart_30 : decode cX8_readsPart 30 = .ok (.aload_n 0, 1) := by decide +kernel
theorem dX8_readsPart_31 : decode cX8_readsPart 31 = .ok (.invokevirtual 84, 3) := by decide +kernel
theorem dX8_readsPart_34 : decode cX8_readsPart 34 = .ok (.istore_n 2, 1) := by decide +kernel
theorem dX8_readsPart_35 : decode cX8_readsPart 35 = .ok (.aload_n 0, 1) := by decide +kernel
theorem dX8_readsPart_36 : decode cX8_readsPart 36 = .ok (.getfield 70, 3) := by decide +kernel
theorem dX8_readsPart_39 : decode cX8_readsPart 39 = .ok (.ifCond .ne 33, 3) := by decide +kernel
theorem dX8_readsPart_42 : decode cX8_readsPart 42 = .ok (.aload_n 0, 1) := by decide +kernel
theorem dX8_readsPart_43 : decode cX8_readsPart 43 = .ok (.getfield 27, 3) := by decide +kernel
theorem dX8_readsPart_46 : decode cX8_readsPart 46 = .ok (.aload_n 0, 1) := by decide +kernel
theorem dX8_readsPart_47 : decode cX8_readsPart 47 = .ok (.getfield 92, 3) := by decide +kernel
theorem dX8_readsPart_50 : decode cX8_readsPart 50 = .ok (.iload_n 1, 1) := by decide +kernel
theorem dX8_readsPart_51 : decode cX8_readsPart 51 = .ok (.iastore, 1) := by decide +kernel
theorem dX8_readsPart_52 : decode cX8_readsPart 52 = .ok (.aload_n 0, 1) := by decide +kernel
theorem dX8_readsPart_53 : decode cX8_readsPart 53 = .ok (.getfield 30, 3) := by decide +kernel
theorem dX8_readsPart_56 : decode cX8_readsPart 56 = .ok (.aload_n 0, 1) := by decide +kernel
theorem dX8_readsPart_57 : decode cX8_readsPart 57 = .ok (.getfield 92, 3) := by decide +kernel
theorem dX8_readsPart_60 : decode cX8_readsPart 60 = .ok (.iload_n 2, 1) := by decide +kernel
theorem dX8_readsPart_61 : decode cX8_readsPart 61 = .ok (.iastore, 1) := by decide +kernel
theorem dX8_readsPart_62 : decode cX8_readsPart 62 = .ok (.aload_n 0, 1) := by decide +kernel
theorem dX8_readsPart_63 : decode cX8_readsPart 63 = .ok (.dup, 1) := by decide +kernel
theorem dX8_readsPart_64 : decode cX8_readsPart 64 = .ok (.getfield 92, 3) := by decide +kernel
theorem dX8_readsPart_67 : decode cX8_readsPart 67 = .ok (.iconst 1, 1) := by decide +kernel
theorem dX8_readsPart_68 : decode cX8_readsPart 68 = .ok (.iadd, 1) := by decide +kernel
theorem dX8_readsPart_69 : decode cX8_readsPart 69 = .ok (.putfield 92, 3) := by decide +kernel
theorem dX8_readsPart_72 : decode cX8_readsPart 72 = .ok (.return_, 1) := by decide +kernel
theorem dX8_reads_0 : decode cX8_reads 0 = .ok (.aload_n 0, 1) := by decide +kernel
theorem dX8_reads_1 : decode cX8_reads 1 = .ok (.iconst 0, 1) := by decide +kernel
theorem dX8_reads_2 : decode cX8_reads 2 = .ok (.putfield 74, 3) := by decide +kernel
theorem dX8_reads_5 : decode cX8_reads 5 = .ok (.aload_n 0, 1) := by decide +kernel
theorem dX8_reads_6 : decode cX8_reads 6 = .ok (.iconst 0, 1) := by decide +kernel
theorem dX8_reads_7 : decode cX8_reads 7 = .ok (.putfield 70, 3) := by decide +kernel
theorem dX8_reads_10 : decode cX8_reads 10 = .ok (.aload_n 0, 1) := by decide +kernel
theorem dX8_reads_11 : decode cX8_reads 11 = .ok (.iconst 0, 1) := by decide +kernel
theorem dX8_reads_12 : decode cX8_reads 12 = .ok (.putfield 92, 3) := by decide +kernel
theorem dX8_reads_15 : decode cX8_reads 15 = .ok (.aload_n 0, 1) := by decide +kernel
theorem dX8_reads_16 : decode cX8_reads 16 = .ok (.invokevirtual 95, 3) := by decide +kernel
theorem dX8_reads_19 : decode cX8_reads 19 = .ok (.aload_n 0, 1) := by decide +kernel
theorem dX8_reads_20 : decode cX8_reads 20 = .ok (.aload_n 0, 1) := by decide +kernel
theorem dX8_reads_21 : decode cX8_reads 21 = .ok (.getfield 70, 3) := by decide +kernel
theorem dX8_reads_24 : decode cX8_reads 24 = .ok (.ifCond .ne 12, 3) := by decide +kernel
theorem dX8_reads_27 : decode cX8_reads 27 = .ok (.aload_n 0, 1) := by decide +kernel
theorem dX8_reads_28 : decode cX8_reads 28 = .ok (.bipush 43, 2) := by decide +kernel
theorem dX8_reads_30 : decode cX8_reads 30 = .ok (.invokevirtual 88, 3) := by decide +kernel
theorem dX8_reads_33 : decode cX8_reads 33 = .ok (.ifCond .ne 7, 3) := by decide +kernel
theorem dX8_reads_36 : decode cX8_reads 36 = .ok (.iconst 1, 1) := by decide +kernel
theorem dX8_reads_37 : decode cX8_reads 37 = .ok (.goto 4, 3) := by decide +kernel
theorem dX8_reads_40 : decode cX8_reads 40 = .ok (.iconst 0, 1) := by decide +kernel
theorem dX8_reads_41 : decode cX8_reads 41 = .ok (.putfield 70, 3) := by decide +kernel
theorem dX8_reads_44 : decode cX8_reads 44 = .ok (.aload_n 0, 1) := by decide +kernel
theorem dX8_reads_45 : decode cX8_reads 45 = .ok (.invokevirtual 95, 3) := by decide +kernel
theorem dX8_reads_48 : decode cX8_reads 48 = .ok (.aload_n 0, 1) := by decide +kernel
theorem dX8_reads_49 : decode cX8_reads 49 = .ok (.getfield 70, 3) := by decide +kernel
theorem dX8_reads_52 : decode cX8_reads 52 = .ok (.ifCond .ne 27, 3) := by decide +kernel
theorem dX8_reads_55 : decode cX8_reads 55 = .ok (.aload_n 0, 1) := by decide +kernel
theorem dX8_reads_56 : decode cX8_reads 56 = .ok (.getfield 92, 3) := by decide +kernel
theorem dX8_reads_59 : decode cX8_reads 59 = .ok (.iconst 4, 1) := by decide +kernel
theorem dX8_reads_60 : decode cX8_reads 60 = .ok (.if_icmp .ge 19, 3) := by decide +kernel
theorem dX8_reads_63 : decode cX8_reads 63 = .ok (.aload_n 0, 1) := by decide +kernel
theorem dX8_reads_64 : decode cX8_reads 64 = .ok (.bipush 43, 2) := by decide +kernel
theorem dX8_reads_66 : decode cX8_reads 66 = .ok (.invokevirtual 88, 3) := by decide +kernel
theorem dX8_reads_69 : decode cX8_reads 69 = .ok (.ifCond .eq 10, 3) := by decide +kernel
theorem dX8_reads_72 : decode cX8_reads 72 = .ok (.aload_n 0, 1) := by decide +kernel
theorem dX8_reads_73 : decode cX8_reads 73 = .ok (.invokevirtual 95, 3) := by decide +kernel
theorem dX8_reads_76 : decode cX8_reads 76 = .ok (.goto (-28), 3) := by decide +kernel
theorem dX8_reads_79 : decode cX8_reads 79 = .ok (.aload_n 0, 1) := by decide +kernel
theorem dX8_reads_80 : decode cX8_reads 80 = .ok (.aload_n 0, 1) := by decide +kernel
theorem dX8_reads_81 : decode cX8_reads 81 = .ok (.getfield 70, 3) := by decide +kernel
theorem dX8_reads_84 : decode cX8_reads 84 = .ok (.ifCond .ne 14, 3) := by decide +kernel
theorem dX8_reads_87 : decode cX8_reads 87 = .ok (.aload_n 0, 1) := by decide +kernel
theorem dX8_reads_88 : decode cX8_reads 88 = .ok (.getfield 74, 3) := by decide +kernel
theorem dX8_reads_91 : decode cX8_reads 91 = .ok (.aload_n 0, 1) := by decide +kernel
theorem dX8_reads_92 : decode cX8_reads 92 = .ok (.getfield 77, 3) := by decide +kernel
theorem dX8_reads_95 : decode cX8_reads 95 = .ok (.if_icmp .ge 7, 3) := by decide +kernel
theorem dX8_reads_98 : decode cX8_reads 98 = .ok (.iconst 1, 1) := by decide +kernel
theorem dX8_reads_99 : decode cX8_reads 99 = .ok (.goto 4, 3) := by decide +kernel
theorem dX8_reads_102 : decode cX8_reads 102 = .ok (.iconst 0, 1) := by decide +kernel
theorem dX8_reads_103 : decode cX8_reads 103 = .ok (.putfield 70, 3) := by decide +kernel
theorem dX8_reads_106 : decode cX8_reads 106 = .ok (.return_, 1) := by decide +kernel
theorem dX8_isAnyNothing_0 : decode cX8_isAnyNothing 0 = .ok (.iconst 0, 1) := by decide +kernel
theorem dX8_isAnyNothing_1 : decode cX8_isAnyNothing 1 = .ok (.istore_n 1, 1) := by decide +kernel
theorem dX8_isAnyNothing_2 : decode cX8_isAnyNothing 2 = .ok (.iconst 0, 1) := by decide +kernel
theorem dX8_isAnyNothing_3 : decode cX8_isAnyNothing 3 = .ok (.istore_n 2, 1) := by decide +kernel
theorem dX8_isAnyNothing_4 : decode cX8_isAnyNothing 4 = .ok (.iload_n 2, 1) := by decide +kernel
theorem dX8_isAnyNothing_5 : decode cX8_isAnyNothing 5 = .ok (.aload_n 0, 1) := by decide +kernel
theorem dX8_isAnyNothing_6 : decode cX8_isAnyNothing 6 = .ok (.getfield 92, 3) := by decide +kernel
theorem dX8_isAnyNothing_9 : decode cX8_isAnyNothing 9 = .ok (.if_icmp .ge 28, 3) := by decide +kernel
theorem dX8_isAnyNothing_12 : decode cX8_isAnyNothing 12 = .ok (.iload_n 1, 1) := by decide +kernel
theorem dX8_isAnyNothing_13 : decode cX8_isAnyNothing 13 = .ok (.ifCond .ne 12, 3) := by decide +kernel
theorem dX8_isAnyNothing_16 : decode cX8_isAnyNothing 16 = .ok (.aload_n 0, 1) := by decide +kernel
theorem dX8_isAnyNothing_17 : decode cX8_isAnyNothing 17 = .ok (.getfield 30, 3) := by decide +kernel
theorem dX8_isAnyNothing_20 : decode cX8_isAnyNothing 20 = .ok (.iload_n 2, 1) := by decide +kernel
theorem dX8_isAnyNothing_21 : decode cX8_isAnyNothing 21 = .ok (.iaload, 1) := by decide +kernel
theorem dX8_isAnyNothing_22 : decode cX8_isAnyNothing 22 = .ok (.ifCond .ne 7, 3) := by decide +kernel
theorem dX8_isAnyNothing_25 : decode cX8_isAnyNothing 25 = .ok (.iconst 1, 1) := by decide +kernel
theorem dX8_isAnyNothing_26 : decode cX8_isAnyNothing 26 = .ok (.goto 4, 3) := by decide +kernel
theorem dX8_isAnyNothing_29 : decode cX8_isAnyNothing 29 = .ok (.iconst 0, 1) := by decide +kernel
theorem dX8_isAnyNothing_30 : decode cX8_isAnyNothing 30 = .ok (.istore_n 1, 1) := by decide +kernel
theorem dX8_isAnyNothing_31 : decode cX8_isAnyNothing 31 = .ok (.iinc 2 1, 3) := by decide +kernel
theorem dX8_isAnyNothing_34 : decode cX8_isAnyNothing 34 = .ok (.goto (-30), 3) := by decide +kernel
theorem dX8_isAnyNothing_37 : decode cX8_isAnyNothing 37 = .ok (.iload_n 1, 1) := by decide +kernel
theorem dX8_isAnyNothing_38 : decode cX8_isAnyNothing 38 = .ok (.ireturn, 1) := by decide +kernel
theorem dX8_areLots_0 : decode cX8_areLots 0 = .ok (.iconst 1, 1) := by decide +kernel
theorem dX8_areLots_1 : decode cX8_areLots 1 = .ok (.istore_n 1, 1) := by decide +kernel
theorem dX8_areLots_2 : decode cX8_areLots 2 = .ok (.iconst 0, 1) := by decide +kernel
theorem dX8_areLots_3 : decode cX8_areLots 3 = .ok (.istore_n 2, 1) := by decide +kernel
theorem dX8_areLots_4 : decode cX8_areLots 4 = .ok (.iload_n 2, 1) := by decide +kernel
theorem dX8_areLots_5 : decode cX8_areLots 5 = .ok (.aload_n 0, 1) := by decide +kernel
theorem dX8_areLots_6 : decode cX8_areLots 6 = .ok (.getfield 92, 3) := by decide +kernel
theorem dX8_areLots_9 : decode cX8_areLots 9 = .ok (.if_icmp .ge 70, 3) := by decide +kernel
theorem dX8_areLots_12 : decode cX8_areLots 12 = .ok (.iload_n 1, 1) := by decide +kernel
theorem dX8_areLots_13 : decode cX8_areLots 13 = .ok (.ifCond .eq 20, 3) := by decide +kernel
theorem dX8_areLots_16 : decode cX8_areLots 16 = .ok (.aload_n 0, 1) := by decide +kernel
theorem dX8_areLots_17 : decode cX8_areLots 17 = .ok (.aload_n 0, 1) := by decide +kernel
theorem dX8_areLots_18 : decode cX8_areLots 18 = .ok (.getfield 27, 3) := by decide +kernel
theorem dX8_areLots_21 : decode cX8_areLots 21 = .ok (.iload_n 2, 1) := by decide +kernel
theorem dX8_areLots_22 : decode cX8_areLots 22 = .ok (.iaload, 1) := by decide +kernel
theorem dX8_areLots_23 : decode cX8_areLots 23 = .ok (.invokevirtual 98, 3) := by decide +kernel
theorem dX8_areLots_26 : decode cX8_areLots 26 = .ok (.ifCond .eq 7, 3) := by decide +kernel
theorem dX8_areLots_29 : decode cX8_areLots 29 = .ok (.iconst 1, 1) := by decide +kernel
theorem dX8_areLots_30 : decode cX8_areLots 30 = .ok (.goto 4, 3) := by decide +kernel
theorem dX8_areLots_33 : decode cX8_areLots 33 = .ok (.iconst 0, 1) := by decide +kernel
theorem dX8_areLots_34 : decode cX8_areLots 34 = .ok (.istore_n 1, 1) := by decide +kernel
theorem dX8_areLots_35 : decode cX8_areLots 35 = .ok (.iconst 0, 1) := by decide +kernel
theorem dX8_areLots_36 : decode cX8_areLots 36 = .ok (.istore_n 3, 1) := by decide +kernel
theorem dX8_areLots_37 : decode cX8_areLots 37 = .ok (.iload_n 3, 1) := by decide +kernel
theorem dX8_areLots_38 : decode cX8_areLots 38 = .ok (.iload_n 2, 1) := by decide +kernel
theorem dX8_areLots_39 : decode cX8_areLots 39 = .ok (.if_icmp .ge 34, 3) := by decide +kernel
theorem dX8_areLots_42 : decode cX8_areLots 42 = .ok (.iload_n 1, 1) := by decide +kernel
theorem dX8_areLots_43 : decode cX8_areLots 43 = .ok (.ifCond .eq 22, 3) := by decide +kernel
theorem dX8_areLots_46 : decode cX8_areLots 46 = .ok (.aload_n 0, 1) := by decide +kernel
theorem dX8_areLots_47 : decode cX8_areLots 47 = .ok (.getfield 27, 3) := by decide +kernel
theorem dX8_areLots_50 : decode cX8_areLots 50 = .ok (.iload_n 3, 1) := by decide +kernel
theorem dX8_areLots_51 : decode cX8_areLots 51 = .ok (.iaload, 1) := by decide +kernel
theorem dX8_areLots_52 : decode cX8_areLots 52 = .ok (.aload_n 0, 1) := by decide +kernel
theorem dX8_areLots_53 : decode cX8_areLots 53 = .ok (.getfield 27, 3) := by decide +kernel
theorem dX8_areLots_56 : decode cX8_areLots 56 = .ok (.iload_n 2, 1) := by decide +kernel
theorem dX8_areLots_57 : decode cX8_areLots 57 = .ok (.iaload, 1) := by decide +kernel
theorem dX8_areLots_58 : decode cX8_areLots 58 = .ok (.if_icmp .eq 7, 3) := by decide +kernel
theorem dX8_areLots_61 : decode cX8_areLots 61 = .ok (.iconst 1, 1) := by decide +kernel
theorem dX8_areLots_62 : decode cX8_areLots 62 = .ok (.goto 4, 3) := by decide +kernel
theorem dX8_areLots_65 : decode cX8_areLots 65 = .ok (.iconst 0, 1) := by decide +kernel
theorem dX8_areLots_66 : decode cX8_areLots 66 = .ok (.istore_n 1, 1) := by decide +kernel
theorem dX8_areLots_67 : decode cX8_areLots 67 = .ok (.iinc 3 1, 3) := by decide +kernel
theorem dX8_areLots_70 : decode cX8_areLots 70 = .ok (.goto (-33), 3) := by decide +kernel
theorem dX8_areLots_73 : decode cX8_areLots 73 = .ok (.iinc 2 1, 3) := by decide +kernel
theorem dX8_areLots_76 : decode cX8_areLots 76 = .ok (.goto (-72), 3) := by decide +kernel
theorem dX8_areLots_79 : decode cX8_areLots 79 = .ok (.iload_n 1, 1) := by decide +kernel
theorem dX8_areLots_80 : decode cX8_areLots 80 = .ok (.ireturn, 1) := by decide +kernel
theorem dX8_isEnough_0 : decode cX8_isEnough 0 = .ok (.iconst 1, 1) := by decide +kernel
theorem dX8_isEnough_1 : decode cX8_isEnough 1 = .ok (.istore_n 1, 1) := by decide +kernel
theorem dX8_isEnough_2 : decode cX8_isEnough 2 = .ok (.iconst 0, 1) := by decide +kernel
theorem dX8_isEnough_3 : decode cX8_isEnough 3 = .ok (.istore_n 2, 1) := by decide +kernel
theorem dX8_isEnough_4 : decode cX8_isEnough 4 = .ok (.iload_n 2, 1) := by decide +kernel
theorem dX8_isEnough_5 : decode cX8_isEnough 5 = .ok (.aload_n 0, 1) := by decide +kernel
theorem dX8_isEnough_6 : decode cX8_isEnough 6 = .ok (.getfield 92, 3) := by decide +kernel
theorem dX8_isEnough_9 : decode cX8_isEnough 9 = .ok (.if_icmp .ge 39, 3) := by decide +kernel
theorem dX8_isEnough_12 : decode cX8_isEnough 12 = .ok (.iload_n 1, 1) := by decide +kernel
theorem dX8_isEnough_13 : decode cX8_isEnough 13 = .ok (.ifCond .eq 27, 3) := by decide +kernel
theorem dX8_isEnough_16 : decode cX8_isEnough 16 = .ok (.aload_n 0, 1) := by decide +kernel
theorem dX8_isEnough_17 : decode cX8_isEnough 17 = .ok (.getfield 30, 3) := by decide +kernel
theorem dX8_isEnough_20 : decode cX8_isEnough 20 = .ok (.iload_n 2, 1) := by decide +kernel
theorem dX8_isEnough_21 : decode cX8_isEnough 21 = .ok (.iaload, 1) := by decide +kernel
theorem dX8_isEnough_22 : decode cX8_isEnough 22 = .ok (.aload_n 0, 1) := by decide +kernel
theorem dX8_isEnough_23 : decode cX8_isEnough 23 = .ok (.aload_n 0, 1) := by decide +kernel
theorem dX8_isEnough_24 : decode cX8_isEnough 24 = .ok (.getfield 27, 3) := by decide +kernel
theorem dX8_isEnough_27 : decode cX8_isEnough 27 = .ok (.iload_n 2, 1) := by decide +kernel
theorem dX8_isEnough_28 : decode cX8_isEnough 28 = .ok (.iaload, 1) := by decide +kernel
theorem dX8_isEnough_29 : decode cX8_isEnough 29 = .ok (.iconst 1, 1) := by decide +kernel
theorem dX8_isEnough_30 : decode cX8_isEnough 30 = .ok (.invokevirtual 102, 3) := by decide +kernel
theorem dX8_isEnough_33 : decode cX8_isEnough 33 = .ok (.if_icmp .gt 7, 3) := by decide +kernel
theorem dX8_isEnough_36 : decode cX8_isEnough 36 = .ok (.iconst 1, 1) := by decide +kernel
theorem dX8_isEnough_37 : decode cX8_isEnough 37 = .ok (.goto 4, 3) := by decide +kernel
theorem dX8_isEnough_40 : decode cX8_isEnough 40 = .ok (.iconst 0, 1) := by decide +kernel
theorem dX8_isEnough_41 : decode cX8_isEnough 41 = .ok (.istore_n 1, 1) := by decide +kernel
theorem dX8_isEnough_42 : decode cX8_isEnough 42 = .ok (.iinc 2 1, 3) := by decide +kernel
theorem dX8_isEnough_45 : decode cX8_isEnough 45 = .ok (.goto (-41), 3) := by decide +kernel
theorem dX8_isEnough_48 : decode cX8_isEnough 48 = .ok (.iload_n 1, 1) := by decide +kernel
theorem dX8_isEnough_49 : decode cX8_isEnough 49 = .ok (.ireturn, 1) := by decide +kernel
theorem dX8_nextGeneration_0 : decode cX8_nextGeneration 0 = .ok (.iconst 0, 1) := by decide +kernel
theorem dX8_nextGeneration_1 : decode cX8_nextGeneration 1 = .ok (.istore_n 1, 1) := by decide +kernel
theorem dX8_nextGeneration_2 : decode cX8_nextGeneration 2 = .ok (.iconst 0, 1) := by decide +kernel
theorem dX8_nextGeneration_3 : decode cX8_nextGeneration 3 = .ok (.istore_n 2, 1) := by decide +kernel
theorem dX8_nextGeneration_4 : decode cX8_nextGeneration 4 = .ok (.iload_n 2, 1) := by decide +kernel
theorem dX8_nextGeneration_5 : decode cX8_nextGeneration 5 = .ok (.aload_n 0, 1) := by decide +kernel
theorem dX8_nextGeneration_6 : decode cX8_nextGeneration 6 = .ok (.getfield 92, 3) := by decide +kernel
theorem dX8_nextGeneration_9 : decode cX8_nextGeneration 9 = .ok (.if_icmp .ge 40, 3) := by decide +kernel
theorem dX8_nextGeneration_12 : decode cX8_nextGeneration 12 = .ok (.aload_n 0, 1) := by decide +kernel
theorem dX8_nextGeneration_13 : decode cX8_nextGeneration 13 = .ok (.aload_n 0, 1) := by decide +kernel
theorem dX8_nextGeneration_14 : decode cX8_nextGeneration 14 = .ok (.getfield 27, 3) := by decide +kernel
theorem dX8_nextGeneration_17 : decode cX8_nextGeneration 17 = .ok (.iload_n 2, 1) := by decide +kernel
theorem dX8_nextGeneration_18 : decode cX8_nextGeneration 18 = .ok (.iaload, 1) := by decide +kernel
theorem dX8_nextGeneration_19 : decode cX8_nextGeneration 19 = .ok (.iconst 3, 1) := by decide +kernel
theorem dX8_nextGeneration_20 : decode cX8_nextGeneration 20 = .ok (.invokevirtual 102, 3) := by decide +kernel
theorem dX8_nextGeneration_23 : decode cX8_nextGeneration 23 = .ok (.iload_n 1, 1) := by decide +kernel
theorem dX8_nextGeneration_24 : decode cX8_nextGeneration 24 = .ok (.if_icmp .le 17, 3) := by decide +kernel
theorem dX8_nextGeneration_27 : decode cX8_nextGeneration 27 = .ok (.aload_n 0, 1) := by decide +kernel
theorem dX8_nextGeneration_28 : decode cX8_nextGeneration 28 = .ok (.aload_n 0, 1) := by decide +kernel
theorem dX8_nextGeneration_29 : decode cX8_nextGeneration 29 = .ok (.getfield 27, 3) := by decide +kernel
theorem dX8_nextGeneration_32 : decode cX8_nextGeneration 32 = .ok (.iload_n 2, 1) := by decide +kernel
theorem dX8_nextGeneration_33 : decode cX8_nextGeneration 33 = .ok (.iaload, 1) := by decide +kernel
theorem dX8_nextGeneration_34 : decode cX8_nextGeneration 34 = .ok (.iconst 3, 1) := by decide +kernel
theorem dX8_nextGeneration_35 : decode cX8_nextGeneration 35 = .ok (.invokevirtual 102, 3) := by decide +kernel
theorem dX8_nextGeneration_38 : decode cX8_nextGeneration 38 = .ok (.goto 4, 3) := by decide +kernel
theorem dX8_nextGeneration_41 : decode cX8_nextGeneration 41 = .ok (.iload_n 1, 1) := by decide +kernel
theorem dX8_nextGeneration_42 : decode cX8_nextGeneration 42 = .ok (.istore_n 1, 1) := by decide +kernel
theorem dX8_nextGeneration_43 : decode cX8_nextGeneration 43 = .ok (.iinc 2 1, 3) := by decide +kernel
theorem dX8_nextGeneration_46 : decode cX8_nextGeneration 46 = .ok (.goto (-42), 3) := by decide +kernel
theorem dX8_nextGeneration_49 : decode cX8_nextGeneration 49 = .ok (.iload_n 1, 1) := by decide +kernel
theorem dX8_nextGeneration_50 : decode cX8_nextGeneration 50 = .ok (.iconst 1, 1) := by decide +kernel
theorem dX8_nextGeneration_51 : decode cX8_nextGeneration 51 = .ok (.iadd, 1) := by decide +kernel
theorem dX8_nextGeneration_52 : decode cX8_nextGeneration 52 = .ok (.ireturn, 1) := by decide +kernel
theorem dX8_refusal_0 : decode cX8_refusal 0 = .ok (.aload_n 0, 1) := by decide +kernel
theorem dX8_refusal_1 : decode cX8_refusal 1 = .ok (.invokevirtual 106, 3) := by decide +kernel
theorem dX8_refusal_4 : decode cX8_refusal 4 = .ok (.ifCond .ne 5, 3) := by decide +kernel
theorem dX8_refusal_7 : decode cX8_refusal 7 = .ok (.iconst 1, 1) := by decide +kernel
theorem dX8_refusal_8 : decode cX8_refusal 8 = .ok (.ireturn, 1) := by decide +kernel
theorem dX8_refusal_9 : decode cX8_refusal 9 = .ok (.aload_n 0, 1) := by decide +kernel
theorem dX8_refusal_10 : decode cX8_refusal 10 = .ok (.invokevirtual 109, 3) := by decide +kernel
theorem dX8_refusal_13 : decode cX8_refusal 13 = .ok (.ifCond .ne 7, 3) := by decide +kernel
theorem dX8_refusal_16 : decode cX8_refusal 16 = .ok (.iconst 2, 1) := by decide +kernel
theorem dX8_refusal_17 : decode cX8_refusal 17 = .ok (.goto 31, 3) := by decide +kernel
theorem dX8_refusal_20 : decode cX8_refusal 20 = .ok (.aload_n 0, 1) := by decide +kernel
theorem dX8_refusal_21 : decode cX8_refusal 21 = .ok (.invokevirtual 112, 3) := by decide +kernel
theorem dX8_refusal_24 : decode cX8_refusal 24 = .ok (.iconst 4, 1) := by decide +kernel
theorem dX8_refusal_25 : decode cX8_refusal 25 = .ok (.if_icmp .le 7, 3) := by decide +kernel
theorem dX8_refusal_28 : decode cX8_refusal 28 = .ok (.iconst 3, 1) := by decide +kernel
theorem dX8_refusal_29 : decode cX8_refusal 29 = .ok (.goto 19, 3) := by decide +kernel
theorem dX8_refusal_32 : decode cX8_refusal 32 = .ok (.aload_n 0, 1) := by decide +kernel
theorem dX8_refusal_33 : decode cX8_refusal 33 = .ok (.getfield 9, 3) := by decide +kernel
theorem dX8_refusal_36 : decode cX8_refusal 36 = .ok (.iconst 0, 1) := by decide +kernel
theorem dX8_refusal_37 : decode cX8_refusal 37 = .ok (.iaload, 1) := by decide +kernel
theorem dX8_refusal_38 : decode cX8_refusal 38 = .ok (.bipush 24, 2) := by decide +kernel
theorem dX8_refusal_40 : decode cX8_refusal 40 = .ok (.if_icmp .ne 7, 3) := by decide +kernel
theorem dX8_refusal_43 : decode cX8_refusal 43 = .ok (.iconst 4, 1) := by decide +kernel
theorem dX8_refusal_44 : decode cX8_refusal 44 = .ok (.goto 4, 3) := by decide +kernel
theorem dX8_refusal_47 : decode cX8_refusal 47 = .ok (.iconst 0, 1) := by decide +kernel
theorem dX8_refusal_48 : decode cX8_refusal 48 = .ok (.ireturn, 1) := by decide +kernel
theorem dX8_findShares_0 : decode cX8_findShares 0 = .ok (.sipush 1000, 3) := by decide +kernel
theorem dX8_findShares_3 : decode cX8_findShares 3 = .ok (.istore_n 2, 1) := by decide +kernel
theorem dX8_findShares_4 : decode cX8_findShares 4 = .ok (.iconst 0, 1) := by decide +kernel
theorem dX8_findShares_5 : decode cX8_findShares 5 = .ok (.istore_n 3, 1) := by decide +kernel
theorem dX8_findShares_6 : decode cX8_findShares 6 = .ok (.iload_n 3, 1) := by decide +kernel
theorem dX8_findShares_7 : decode cX8_findShares 7 = .ok (.aload_n 0, 1) := by decide +kernel
theorem dX8_findShares_8 : decode cX8_findShares 8 = .ok (.getfield 9, 3) := by decide +kernel
theorem dX8_findShares_11 : decode cX8_findShares 11 = .ok (.iconst 1, 1) := by decide +kernel
theorem dX8_findShares_12 : decode cX8_findShares 12 = .ok (.iaload, 1) := by decide +kernel
theorem dX8_findShares_13 : decode cX8_findShares 13 = .ok (.if_icmp .ge 110, 3) := by decide +kernel
theorem dX8_findShares_16 : decode cX8_findShares 16 = .ok (.iconst 0, 1) := by decide +kernel
theorem dX8_findShares_17 : decode cX8_findShares 17 = .ok (.istore 4, 2) := by decide +kernel
theorem dX8_findShares_19 : decode cX8_findShares 19 = .ok (.iconst 0, 1) := by decide +kernel
theorem dX8_findShares_20 : decode cX8_findShares 20 = .ok (.istore 5, 2) := by decide +kernel
theorem dX8_findShares_22 : decode cX8_findShares 22 = .ok (.iload 5, 2) := by decide +kernel
theorem dX8_findShares_24 : decode cX8_findShares 24 = .ok (.aload_n 0, 1) := by decide +kernel
theorem dX8_findShares_25 : decode cX8_findShares 25 = .ok (.iload_n 1, 1) := by decide +kernel
theorem dX8_findShares_26 : decode cX8_findShares 26 = .ok (.iconst 2, 1) := by decide +kernel
theorem dX8_findShares_27 : decode cX8_findShares 27 = .ok (.invokevirtual 102, 3) := by decide +kernel
theorem dX8_findShares_30 : decode cX8_findShares 30 = .ok (.if_icmp .ge 42, 3) := by decide +kernel
theorem dX8_findShares_33 : decode cX8_findShares 33 = .ok (.iload 4, 2) := by decide +kernel
theorem dX8_findShares_35 : decode cX8_findShares 35 = .ok (.aload_n 0, 1) := by decide +kernel
theorem dX8_findShares_36 : decode cX8_findShares 36 = .ok (.iload_n 1, 1) := by decide +kernel
theorem dX8_findShares_37 : decode cX8_findShares 37 = .ok (.bipush 9, 2) := by decide +kernel
theorem dX8_findShares_39 : decode cX8_findShares 39 = .ok (.iload 5, 2) := by decide +kernel
theorem dX8_findShares_41 : decode cX8_findShares 41 = .ok (.iadd, 1) := by decide +kernel
theorem dX8_findShares_42 : decode cX8_findShares 42 = .ok (.invokevirtual 102, 3) := by decide +kernel
theorem dX8_findShares_45 : decode cX8_findShares 45 = .ok (.aload_n 0, 1) := by decide +kernel
theorem dX8_findShares_46 : decode cX8_findShares 46 = .ok (.aload_n 0, 1) := by decide +kernel
theorem dX8_findShares_47 : decode cX8_findShares 47 = .ok (.iload_n 1, 1) := by decide +kernel
theorem dX8_findShares_48 : decode cX8_findShares 48 = .ok (.iconst 5, 1) := by decide +kernel
theorem dX8_findShares_49 : decode cX8_findShares 49 = .ok (.iload 5, 2) := by decide +kernel
theorem dX8_findShares_51 : decode cX8_findShares 51 = .ok (.iadd, 1) := by decide +kernel
theorem dX8_findShares_52 : decode cX8_findShares 52 = .ok (.invokevirtual 102, 3) := by decide +kernel
theorem dX8_findShares_55 : decode cX8_findShares 55 = .ok (.bipush 13, 2) := by decide +kernel
theorem dX8_findShares_57 : decode cX8_findShares 57 = .ok (.iload_n 3, 1) := by decide +kernel
theorem dX8_findShares_58 : decode cX8_findShares 58 = .ok (.iadd, 1) := by decide +kernel
theorem dX8_findShares_59 : decode cX8_findShares 59 = .ok (.invokevirtual 102, 3) := by decide +kernel
theorem dX8_findShares_62 : decode cX8_findShares 62 = .ok (.imul, 1) := by decide +kernel
theorem dX8_findShares_63 : decode cX8_findShares 63 = .ok (.iadd, 1) := by decide +kernel
theorem dX8_findShares_64 : decode cX8_findShares 64 = .ok (.istore 4, 2) := by decide +kernel
theorem dX8_findShares_66 : decode cX8_findShares 66 = .ok (.iinc 5 1, 3) := by decide +kernel
theorem dX8_findShares_69 : decode cX8_findShares 69 = .ok (.goto (-47), 3) := by decide +kernel
theorem dX8_findShares_72 : decode cX8_findShares 72 = .ok (.aload_n 0, 1) := by decide +kernel
theorem dX8_findShares_73 : decode cX8_findShares 73 = .ok (.iload_n 1, 1) := by decide +kernel
theorem dX8_findShares_74 : decode cX8_findShares 74 = .ok (.bipush 13, 2) := by decide +kernel
theorem dX8_findShares_76 : decode cX8_findShares 76 = .ok (.iload_n 3, 1) := by decide +kernel
theorem dX8_findShares_77 : decode cX8_findShares 77 = .ok (.iadd, 1) := by decide +kernel
theorem dX8_findShares_78 : decode cX8_findShares 78 = .ok (.iload 4, 2) := by decide +kernel
theorem dX8_findShares_80 : decode cX8_findShares 80 = .ok (.aload_n 0, 1) := by decide +kernel
theorem dX8_findShares_81 : decode cX8_findShares 81 = .ok (.iload_n 1, 1) := by decide +kernel
theorem dX8_findShares_82 : decode cX8_findShares 82 = .ok (.iconst 0, 1) := by decide +kernel
theorem dX8_findShares_83 : decode cX8_findShares 83 = .ok (.invokevirtual 102, 3) := by decide +kernel
theorem dX8_findShares_86 : decode cX8_findShares 86 = .ok (.idiv, 1) := by decide +kernel
theorem dX8_findShares_87 : decode cX8_findShares 87 = .ok (.invokevirtual 59, 3) := by decide +kernel
theorem dX8_findShares_90 : decode cX8_findShares 90 = .ok (.aload_n 0, 1) := by decide +kernel
theorem dX8_findShares_91 : decode cX8_findShares 91 = .ok (.getfield 33, 3) := by decide +kernel
theorem dX8_findShares_94 : decode cX8_findShares 94 = .ok (.iload_n 3, 1) := by decide +kernel
theorem dX8_findShares_95 : decode cX8_findShares 95 = .ok (.iload 4, 2) := by decide +kernel
theorem dX8_findShares_97 : decode cX8_findShares 97 = .ok (.aload_n 0, 1) := by decide +kernel
theorem dX8_findShares_98 : decode cX8_findShares 98 = .ok (.iload_n 1, 1) := by decide +kernel
theorem dX8_findShares_99 : decode cX8_findShares 99 = .ok (.iconst 0, 1) := by decide +kernel
theorem dX8_findShares_100 : decode cX8_findShares 100 = .ok (.invokevirtual 102, 3) := by decide +kernel
theorem dX8_findShares_103 : decode cX8_findShares 103 = .ok (.irem, 1) := by decide +kernel
theorem dX8_findShares_104 : decode cX8_findShares 104 = .ok (.iastore, 1) := by decide +kernel
theorem dX8_findShares_105 : decode cX8_findShares 105 = .ok (.iload_n 2, 1) := by decide +kernel
theorem dX8_findShares_106 : decode cX8_findShares 106 = .ok (.aload_n 0, 1) := by decide +kernel
theorem dX8_findShares_107 : decode cX8_findShares 107 = .ok (.iload_n 1, 1) := by decide +kernel
theorem dX8_findShares_108 : decode cX8_findShares 108 = .ok (.bipush 13, 2) := by decide +kernel
theorem dX8_findShares_110 : decode cX8_findShares 110 = .ok (.iload_n 3, 1) := by decide +kernel
theorem dX8_findShares_111 : decode cX8_findShares 111 = .ok (.iadd, 1) := by decide +kernel
theorem dX8_findShares_112 : decode cX8_findShares 112 = .ok (.invokevirtual 102, 3) := by decide +kernel
theorem dX8_findShares_115 : decode cX8_findShares 115 = .ok (.isub, 1) := by decide +kernel
theorem dX8_findShares_116 : decode cX8_findShares 116 = .ok (.istore_n 2, 1) := by decide +kernel
theorem dX8_findShares_117 : decode cX8_findShares 117 = .ok (.iinc 3 1, 3) := by decide +kernel
theorem dX8_findShares_120 : decode cX8_findShares 120 = .ok (.goto (-114), 3) := by decide +kernel
theorem dX8_findShares_123 : decode cX8_findShares 123 = .ok (.iconst 0, 1) := by decide +kernel
theorem dX8_findShares_124 : decode cX8_findShares 124 = .ok (.istore_n 3, 1) := by decide +kernel
theorem dX8_findShares_125 : decode cX8_findShares 125 = .ok (.iload_n 3, 1) := by decide +kernel
theorem dX8_findShares_126 : decode cX8_findShares 126 = .ok (.iload_n 2, 1) := by decide +kernel
theorem dX8_findShares_127 : decode cX8_findShares 127 = .ok (.if_icmp .ge 88, 3) := by decide +kernel
theorem dX8_findShares_130 : decode cX8_findShares 130 = .ok (.iconst 0, 1) := by decide +kernel
theorem dX8_findShares_131 : decode cX8_findShares 131 = .ok (.istore 4, 2) := by decide +kernel
theorem dX8_findShares_133 : decode cX8_findShares 133 = .ok (.iconst 1, 1) := by decide +kernel
theorem dX8_findShares_134 : decode cX8_findShares 134 = .ok (.istore 5, 2) := by decide +kernel
theorem dX8_findShares_136 : decode cX8_findShares 136 = .ok (.iload 5, 2) := by decide +kernel
theorem dX8_findShares_138 : decode cX8_findShares 138 = .ok (.aload_n 0, 1) := by decide +kernel
theorem dX8_findShares_139 : decode cX8_findShares 139 = .ok (.getfield 9, 3) := by decide +kernel
theorem dX8_findShares_142 : decode cX8_findShares 142 = .ok (.iconst 1, 1) := by decide +kernel
theorem dX8_findShares_143 : decode cX8_findShares 143 = .ok (.iaload, 1) := by decide +kernel
theorem dX8_findShares_144 : decode cX8_findShares 144 = .ok (.if_icmp .ge 35, 3) := by decide +kernel
theorem dX8_findShares_147 : decode cX8_findShares 147 = .ok (.aload_n 0, 1) := by decide +kernel
theorem dX8_findShares_148 : decode cX8_findShares 148 = .ok (.getfield 33, 3) := by decide +kernel
theorem dX8_findShares_151 : decode cX8_findShares 151 = .ok (.iload 5, 2) := by decide +kernel
theorem dX8_findShares_153 : decode cX8_findShares 153 = .ok (.iaload, 1) := by decide +kernel
theorem dX8_findShares_154 : decode cX8_findShares 154 = .ok (.aload_n 0, 1) := by decide +kernel
theorem dX8_findShares_155 : decode cX8_findShares 155 = .ok (.getfield 33, 3) := by decide +kernel
theorem dX8_findShares_158 : decode cX8_findShares 158 = .ok (.iload 4, 2) := by decide +kernel
theorem dX8_findShares_160 : decode cX8_findShares 160 = .ok (.iaload, 1) := by decide +kernel
theorem dX8_findShares_161 : decode cX8_findShares 161 = .ok (.if_icmp .le 8, 3) := by decide +kernel
theorem dX8_findShares_164 : decode cX8_findShares 164 = .ok (.iload 5, 2) := by decide +kernel
theorem dX8_findShares_166 : decode cX8_findShares 166 = .ok (.goto 5, 3) := by decide +kernel
theorem dX8_findShares_169 : decode cX8_findShares 169 = .ok (.iload 4, 2) := by decide +kernel
theorem dX8_findShares_171 : decode cX8_findShares 171 = .ok (.istore 4, 2) := by decide +kernel
theorem dX8_findShares_173 : decode cX8_findShares 173 = .ok (.iinc 5 1, 3) := by decide +kernel
theorem dX8_findShares_176 : decode cX8_findShares 176 = .ok (.goto (-40), 3) := by decide +kernel
theorem dX8_findShares_179 : decode cX8_findShares 179 = .ok (.aload_n 0, 1) := by decide +kernel
theorem dX8_findShares_180 : decode cX8_findShares 180 = .ok (.iload_n 1, 1) := by decide +kernel
theorem dX8_findShares_181 : decode cX8_findShares 181 = .ok (.bipush 13, 2) := by decide +kernel
theorem dX8_findShares_183 : decode cX8_findShares 183 = .ok (.iload 4, 2) := by decide +kernel
theorem dX8_findShares_185 : decode cX8_findShares 185 = .ok (.iadd, 1) := by decide +kernel
theorem dX8_findShares_186 : decode cX8_findShares 186 = .ok (.aload_n 0, 1) := by decide +kernel
theorem dX8_findShares_187 : decode cX8_findShares 187 = .ok (.iload_n 1, 1) := by decide +kernel
theorem dX8_findShares_188 : decode cX8_findShares 188 = .ok (.bipush 13, 2) := by decide +kernel
theorem dX8_findShares_190 : decode cX8_findShares 190 = .ok (.iload 4, 2) := by decide +kernel
theorem dX8_findShares_192 : decode cX8_findShares 192 = .ok (.iadd, 1) := by decide +kernel
theorem dX8_findShares_193 : decode cX8_findShares 193 = .ok (.invokevirtual 102, 3) := by decide +kernel
theorem dX8_findShares_196 : decode cX8_findShares 196 = .ok (.iconst 1, 1) := by decide +kernel
theorem dX8_findShares_197 : decode cX8_findShares 197 = .ok (.iadd, 1) := by decide +kernel
theorem dX8_findShares_198 : decode cX8_findShares 198 = .ok (.invokevirtual 59, 3) := by decide +kernel
theorem dX8_findShares_201 : decode cX8_findShares 201 = .ok (.aload_n 0, 1) := by decide +kernel
theorem dX8_findShares_202 : decode cX8_findShares 202 = .ok (.getfield 33, 3) := by decide +kernel
theorem dX8_findShares_205 : decode cX8_findShares 205 = .ok (.iload 4, 2) := by decide +kernel
theorem dX8_findShares_207 : decode cX8_findShares 207 = .ok (.iconst (-1), 1) := by decide +kernel
theorem dX8_findShares_208 : decode cX8_findShares 208 = .ok (.iastore, 1) := by decide +kernel
theorem dX8_findShares_209 : decode cX8_findShares 209 = .ok (.iinc 3 1, 3) := by decide +kernel
theorem dX8_findShares_212 : decode cX8_findShares 212 = .ok (.goto (-87), 3) := by decide +kernel
theorem dX8_findShares_215 : decode cX8_findShares 215 = .ok (.return_, 1) := by decide +kernel
theorem dX8_blend_0 : decode cX8_blend 0 = .ok (.aload_n 0, 1) := by decide +kernel
theorem dX8_blend_1 : decode cX8_blend 1 = .ok (.iconst 0, 1) := by decide +kernel
theorem dX8_blend_2 : decode cX8_blend 2 = .ok (.putfield 42, 3) := by decide +kernel
theorem dX8_blend_5 : decode cX8_blend 5 = .ok (.aload_n 0, 1) := by decide +kernel
theorem dX8_blend_6 : decode cX8_blend 6 = .ok (.aload_n 0, 1) := by decide +kernel
theorem dX8_blend_7 : decode cX8_blend 7 = .ok (.getfield 115, 3) := by decide +kernel
theorem dX8_blend_10 : decode cX8_blend 10 = .ok (.putfield 77, 3) := by decide +kernel
theorem dX8_blend_13 : decode cX8_blend 13 = .ok (.aload_n 0, 1) := by decide +kernel
theorem dX8_blend_14 : decode cX8_blend 14 = .ok (.iconst 0, 1) := by decide +kernel
theorem dX8_blend_15 : decode cX8_blend 15 = .ok (.putfield 115, 3) := by decide +kernel
theorem dX8_blend_18 : decode cX8_blend 18 = .ok (.aload_n 0, 1) := by decide +kernel
theorem dX8_blend_19 : decode cX8_blend 19 = .ok (.invokevirtual 118, 3) := by decide +kernel
theorem dX8_blend_22 : decode cX8_blend 22 = .ok (.aload_n 0, 1) := by decide +kernel
theorem dX8_blend_23 : decode cX8_blend 23 = .ok (.getfield 70, 3) := by decide +kernel
theorem dX8_blend_26 : decode cX8_blend 26 = .ok (.ifCond .eq 17, 3) := by decide +kernel
theorem dX8_blend_29 : decode cX8_blend 29 = .ok (.aload_n 0, 1) := by decide +kernel
theorem dX8_blend_30 : decode cX8_blend 30 = .ok (.aload_n 0, 1) := by decide +kernel
theorem dX8_blend_31 : decode cX8_blend 31 = .ok (.getfield 74, 3) := by decide +kernel
theorem dX8_blend_34 : decode cX8_blend 34 = .ok (.putfield 19, 3) := by decide +kernel
theorem dX8_blend_37 : decode cX8_blend 37 = .ok (.aload_n 0, 1) := by decide +kernel
theorem dX8_blend_38 : decode cX8_blend 38 = .ok (.iconst 1, 1) := by decide +kernel
theorem dX8_blend_39 : decode cX8_blend 39 = .ok (.invokevirtual 48, 3) := by decide +kernel
theorem dX8_blend_42 : decode cX8_blend 42 = .ok (.ireturn, 1) := by decide +kernel
theorem dX8_blend_43 : decode cX8_blend 43 = .ok (.aload_n 0, 1) := by decide +kernel
theorem dX8_blend_44 : decode cX8_blend 44 = .ok (.invokevirtual 121, 3) := by decide +kernel
theorem dX8_blend_47 : decode cX8_blend 47 = .ok (.ifCond .eq 9, 3) := by decide +kernel
theorem dX8_blend_50 : decode cX8_blend 50 = .ok (.aload_n 0, 1) := by decide +kernel
theorem dX8_blend_51 : decode cX8_blend 51 = .ok (.iconst 1, 1) := by decide +kernel
theorem dX8_blend_52 : decode cX8_blend 52 = .ok (.invokevirtual 48, 3) := by decide +kernel
theorem dX8_blend_55 : decode cX8_blend 55 = .ok (.ireturn, 1) := by decide +kernel
theorem dX8_blend_56 : decode cX8_blend 56 = .ok (.aload_n 0, 1) := by decide +kernel
theorem dX8_blend_57 : decode cX8_blend 57 = .ok (.invokevirtual 124, 3) := by decide +kernel
theorem dX8_blend_60 : decode cX8_blend 60 = .ok (.istore_n 1, 1) := by decide +kernel
theorem dX8_blend_61 : decode cX8_blend 61 = .ok (.iload_n 1, 1) := by decide +kernel
theorem dX8_blend_62 : decode cX8_blend 62 = .ok (.ifCond .eq 10, 3) := by decide +kernel
theorem dX8_blend_65 : decode cX8_blend 65 = .ok (.aload_n 0, 1) := by decide +kernel
theorem dX8_blend_66 : decode cX8_blend 66 = .ok (.iconst 2, 1) := by decide +kernel
theorem dX8_blend_67 : decode cX8_blend 67 = .ok (.iload_n 1, 1) := by decide +kernel
theorem dX8_blend_68 : decode cX8_blend 68 = .ok (.invokevirtual 127, 3) := by decide +kernel
theorem dX8_blend_71 : decode cX8_blend 71 = .ok (.ireturn, 1) := by decide +kernel
theorem dX8_blend_72 : decode cX8_blend 72 = .ok (.aload_n 0, 1) := by decide +kernel
theorem dX8_blend_73 : decode cX8_blend 73 = .ok (.invokevirtual 63, 3) := by decide +kernel
theorem dX8_blend_76 : decode cX8_blend 76 = .ok (.iconst 0, 1) := by decide +kernel
theorem dX8_blend_77 : decode cX8_blend 77 = .ok (.istore_n 2, 1) := by decide +kernel
theorem dX8_blend_78 : decode cX8_blend 78 = .ok (.iconst 0, 1) := by decide +kernel
theorem dX8_blend_79 : decode cX8_blend 79 = .ok (.istore_n 3, 1) := by decide +kernel
theorem dX8_blend_80 : decode cX8_blend 80 = .ok (.iload_n 3, 1) := by decide +kernel
theorem dX8_blend_81 : decode cX8_blend 81 = .ok (.aload_n 0, 1) := by decide +kernel
theorem dX8_blend_82 : decode cX8_blend 82 = .ok (.getfield 92, 3) := by decide +kernel
theorem dX8_blend_85 : decode cX8_blend 85 = .ok (.if_icmp .ge 47, 3) := by decide +kernel
theorem dX8_blend_88 : decode cX8_blend 88 = .ok (.iload_n 2, 1) := by decide +kernel
theorem dX8_blend_89 : decode cX8_blend 89 = .ok (.aload_n 0, 1) := by decide +kernel
theorem dX8_blend_90 : decode cX8_blend 90 = .ok (.getfield 30, 3) := by decide +kernel
theorem dX8_blend_93 : decode cX8_blend 93 = .ok (.iload_n 3, 1) := by decide +kernel
theorem dX8_blend_94 : decode cX8_blend 94 = .ok (.iaload, 1) := by decide +kernel
theorem dX8_blend_95 : decode cX8_blend 95 = .ok (.iadd, 1) := by decide +kernel
theorem dX8_blend_96 : decode cX8_blend 96 = .ok (.istore_n 2, 1) := by decide +kernel
theorem dX8_blend_97 : decode cX8_blend 97 = .ok (.aload_n 0, 1) := by decide +kernel
theorem dX8_blend_98 : decode cX8_blend 98 = .ok (.aload_n 0, 1) := by decide +kernel
theorem dX8_blend_99 : decode cX8_blend 99 = .ok (.getfield 27, 3) := by decide +kernel
theorem dX8_blend_102 : decode cX8_blend 102 = .ok (.iload_n 3, 1) := by decide +kernel
theorem dX8_blend_103 : decode cX8_blend 103 = .ok (.iaload, 1) := by decide +kernel
theorem dX8_blend_104 : decode cX8_blend 104 = .ok (.iconst 1, 1) := by decide +kernel
theorem dX8_blend_105 : decode cX8_blend 105 = .ok (.aload_n 0, 1) := by decide +kernel
theorem dX8_blend_106 : decode cX8_blend 106 = .ok (.aload_n 0, 1) := by decide +kernel
theorem dX8_blend_107 : decode cX8_blend 107 = .ok (.getfield 27, 3) := by decide +kernel
theorem dX8_blend_110 : decode cX8_blend 110 = .ok (.iload_n 3, 1) := by decide +kernel
theorem dX8_blend_111 : decode cX8_blend 111 = .ok (.iaload, 1) := by decide +kernel
theorem dX8_blend_112 : decode cX8_blend 112 = .ok (.iconst 1, 1) := by decide +kernel
theorem dX8_blend_113 : decode cX8_blend 113 = .ok (.invokevirtual 102, 3) := by decide +kernel
theorem dX8_blend_116 : decode cX8_blend 116 = .ok (.aload_n 0, 1) := by decide +kernel
theorem dX8_blend_117 : decode cX8_blend 117 = .ok (.getfield 30, 3) := by decide +kernel
theorem dX8_blend_120 : decode cX8_blend 120 = .ok (.iload_n 3, 1) := by decide +kernel
theorem dX8_blend_121 : decode cX8_blend 121 = .ok (.iaload, 1) := by decide +kernel
theorem dX8_blend_122 : decode cX8_blend 122 = .ok (.isub, 1) := by decide +kernel
theorem dX8_blend_123 : decode cX8_blend 123 = .ok (.invokevirtual 59, 3) := by decide +kernel
theorem dX8_blend_126 : decode cX8_blend 126 = .ok (.iinc 3 1, 3) := by decide +kernel
theorem dX8_blend_129 : decode cX8_blend 129 = .ok (.goto (-49), 3) := by decide +kernel
theorem dX8_blend_132 : decode cX8_blend 132 = .ok (.aload_n 0, 1) := by decide +kernel
theorem dX8_blend_133 : decode cX8_blend 133 = .ok (.iload_n 2, 1) := by decide +kernel
theorem dX8_blend_134 : decode cX8_blend 134 = .ok (.aload_n 0, 1) := by decide +kernel
theorem dX8_blend_135 : decode cX8_blend 135 = .ok (.invokevirtual 112, 3) := by decide +kernel
theorem dX8_blend_138 : decode cX8_blend 138 = .ok (.iconst (-1), 1) := by decide +kernel
theorem dX8_blend_139 : decode cX8_blend 139 = .ok (.invokevirtual 66, 3) := by decide +kernel
theorem dX8_blend_142 : decode cX8_blend 142 = .ok (.istore_n 3, 1) := by decide +kernel
theorem dX8_blend_143 : decode cX8_blend 143 = .ok (.aload_n 0, 1) := by decide +kernel
theorem dX8_blend_144 : decode cX8_blend 144 = .ok (.iload_n 3, 1) := by decide +kernel
theorem dX8_blend_145 : decode cX8_blend 145 = .ok (.iconst 2, 1) := by decide +kernel
theorem dX8_blend_146 : decode cX8_blend 146 = .ok (.aload_n 0, 1) := by decide +kernel
theorem dX8_blend_147 : decode cX8_blend 147 = .ok (.getfield 92, 3) := by decide +kernel
theorem dX8_blend_150 : decode cX8_blend 150 = .ok (.invokevirtual 59, 3) := by decide +kernel
theorem dX8_blend_153 : decode cX8_blend 153 = .ok (.iconst 0, 1) := by decide +kernel
theorem dX8_blend_154 : decode cX8_blend 154 = .ok (.istore 4, 2) := by decide +kernel
theorem dX8_blend_156 : decode cX8_blend 156 = .ok (.iload 4, 2) := by decide +kernel
theorem dX8_blend_158 : decode cX8_blend 158 = .ok (.aload_n 0, 1) := by decide +kernel
theorem dX8_blend_159 : decode cX8_blend 159 = .ok (.getfield 92, 3) := by decide +kernel
theorem dX8_blend_162 : decode cX8_blend 162 = .ok (.if_icmp .ge 42, 3) := by decide +kernel
theorem dX8_blend_165 : decode cX8_blend 165 = .ok (.aload_n 0, 1) := by decide +kernel
theorem dX8_blend_166 : decode cX8_blend 166 = .ok (.iload_n 3, 1) := by decide +kernel
theorem dX8_blend_167 : decode cX8_blend 167 = .ok (.iconst 5, 1) := by decide +kernel
theorem dX8_blend_168 : decode cX8_blend 168 = .ok (.iload 4, 2) := by decide +kernel
theorem dX8_blend_170 : decode cX8_blend 170 = .ok (.iadd, 1) := by decide +kernel
theorem dX8_blend_171 : decode cX8_blend 171 = .ok (.aload_n 0, 1) := by decide +kernel
theorem dX8_blend_172 : decode cX8_blend 172 = .ok (.getfield 27, 3) := by decide +kernel
theorem dX8_blend_175 : decode cX8_blend 175 = .ok (.iload 4, 2) := by decide +kernel
theorem dX8_blend_177 : decode cX8_blend 177 = .ok (.iaload, 1) := by decide +kernel
theorem dX8_blend_178 : decode cX8_blend 178 = .ok (.invokevirtual 59, 3) := by decide +kernel
theorem dX8_blend_181 : decode cX8_blend 181 = .ok (.aload_n 0, 1) := by decide +kernel
theorem dX8_blend_182 : decode cX8_blend 182 = .ok (.iload_n 3, 1) := by decide +kernel
theorem dX8_blend_183 : decode cX8_blend 183 = .ok (.bipush 9, 2) := by decide +kernel
theorem dX8_blend_185 : decode cX8_blend 185 = .ok (.iload 4, 2) := by decide +kernel
theorem dX8_blend_187 : decode cX8_blend 187 = .ok (.iadd, 1) := by decide +kernel
theorem dX8_blend_188 : decode cX8_blend 188 = .ok (.aload_n 0, 1) := by decide +kernel
theorem dX8_blend_189 : decode cX8_blend 189 = .ok (.getfield 30, 3) := by decide +kernel
theorem dX8_blend_192 : decode cX8_blend 192 = .ok (.iload 4, 2) := by decide +kernel
theorem dX8_blend_194 : decode cX8_blend 194 = .ok (.iaload, 1) := by decide +kernel
theorem dX8_blend_195 : decode cX8_blend 195 = .ok (.invokevirtual 59, 3) := by decide +kernel
theorem dX8_blend_198 : decode cX8_blend 198 = .ok (.iinc 4 1, 3) := by decide +kernel
theorem dX8_blend_201 : decode cX8_blend 201 = .ok (.goto (-45), 3) := by decide +kernel
theorem dX8_blend_204 : decode cX8_blend 204 = .ok (.aload_n 0, 1) := by decide +kernel
theorem dX8_blend_205 : decode cX8_blend 205 = .ok (.iload_n 3, 1) := by decide +kernel
theorem dX8_blend_206 : decode cX8_blend 206 = .ok (.invokevirtual 130, 3) := by decide +kernel
theorem dX8_blend_209 : decode cX8_blend 209 = .ok (.iload_n 3, 1) := by decide +kernel
theorem dX8_blend_210 : decode cX8_blend 210 = .ok (.ireturn, 1) := by decide +kernel
theorem dX8_spill_0 : decode cX8_spill 0 = .ok (.aload_n 0, 1) := by decide +kernel
theorem dX8_spill_1 : decode cX8_spill 1 = .ok (.iconst 0, 1) := by decide +kernel
theorem dX8_spill_2 : decode cX8_spill 2 = .ok (.putfield 42, 3) := by decide +kernel
theorem dX8_spill_5 : decode cX8_spill 5 = .ok (.aload_n 0, 1) := by decide +kernel
theorem dX8_spill_6 : decode cX8_spill 6 = .ok (.iload_n 1, 1) := by decide +kernel
theorem dX8_spill_7 : decode cX8_spill 7 = .ok (.invokevirtual 98, 3) := by decide +kernel
theorem dX8_spill_10 : decode cX8_spill 10 = .ok (.ifCond .ne 9, 3) := by decide +kernel
theorem dX8_spill_13 : decode cX8_spill 13 = .ok (.aload_n 0, 1) := by decide +kernel
theorem dX8_spill_14 : decode cX8_spill 14 = .ok (.iconst 1, 1) := by decide +kernel
theorem dX8_spill_15 : decode cX8_spill 15 = .ok (.invokevirtual 48, 3) := by decide +kernel
theorem dX8_spill_18 : decode cX8_spill 18 = .ok (.ireturn, 1) := by decide +kernel
theorem dX8_spill_19 : decode cX8_spill 19 = .ok (.iload_n 2, 1) := by decide +kernel
theorem dX8_spill_20 : decode cX8_spill 20 = .ok (.iconst 1, 1) := by decide +kernel
theorem dX8_spill_21 : decode cX8_spill 21 = .ok (.sipush 9999, 3) := by decide +kernel
theorem dX8_spill_24 : decode cX8_spill 24 = .ok (.invokestatic 55, 3) := by decide +kernel
theorem dX8_spill_27 : decode cX8_spill 27 = .ok (.ifCond .eq 13, 3) := by decide +kernel
theorem dX8_spill_30 : decode cX8_spill 30 = .ok (.iload_n 2, 1) := by decide +kernel
theorem dX8_spill_31 : decode cX8_spill 31 = .ok (.aload_n 0, 1) := by decide +kernel
theorem dX8_spill_32 : decode cX8_spill 32 = .ok (.iload_n 1, 1) := by decide +kernel
theorem dX8_spill_33 : decode cX8_spill 33 = .ok (.iconst 1, 1) := by decide +kernel
theorem dX8_spill_34 : decode cX8_spill 34 = .ok (.invokevirtual 102, 3) := by decide +kernel
theorem dX8_spill_37 : decode cX8_spill 37 = .ok (.if_icmp .le 9, 3) := by decide +kernel
theorem dX8_spill_40 : decode cX8_spill 40 = .ok (.aload_n 0, 1) := by decide +kernel
theorem dX8_spill_41 : decode cX8_spill 41 = .ok (.iconst 2, 1) := by decide +kernel
theorem dX8_spill_42 : decode cX8_spill 42 = .ok (.invokevirtual 48, 3) := by decide +kernel
theorem dX8_spill_45 : decode cX8_spill 45 = .ok (.ireturn, 1) := by decide +kernel
theorem dX8_spill_46 : decode cX8_spill 46 = .ok (.aload_n 0, 1) := by decide +kernel
theorem dX8_spill_47 : decode cX8_spill 47 = .ok (.invokevirtual 63, 3) := by decide +kernel
theorem dX8_spill_50 : decode cX8_spill 50 = .ok (.aload_n 0, 1) := by decide +kernel
theorem dX8_spill_51 : decode cX8_spill 51 = .ok (.iload_n 1, 1) := by decide +kernel
theorem dX8_spill_52 : decode cX8_spill 52 = .ok (.iconst 1, 1) := by decide +kernel
theorem dX8_spill_53 : decode cX8_spill 53 = .ok (.aload_n 0, 1) := by decide +kernel
theorem dX8_spill_54 : decode cX8_spill 54 = .ok (.iload_n 1, 1) := by decide +kernel
theorem dX8_spill_55 : decode cX8_spill 55 = .ok (.iconst 1, 1) := by decide +kernel
theorem dX8_spill_56 : decode cX8_spill 56 = .ok (.invokevirtual 102, 3) := by decide +kernel
theorem dX8_spill_59 : decode cX8_spill 59 = .ok (.iload_n 2, 1) := by decide +kernel
theorem dX8_spill_60 : decode cX8_spill 60 = .ok (.isub, 1) := by decide +kernel
theorem dX8_spill_61 : decode cX8_spill 61 = .ok (.invokevirtual 59, 3) := by decide +kernel
theorem dX8_spill_64 : decode cX8_spill 64 = .ok (.aload_n 0, 1) := by decide +kernel
theorem dX8_spill_65 : decode cX8_spill 65 = .ok (.getfield 9, 3) := by decide +kernel
theorem dX8_spill_68 : decode cX8_spill 68 = .ok (.iconst 4, 1) := by decide +kernel
theorem dX8_spill_69 : decode cX8_spill 69 = .ok (.dup2, 1) := by decide +kernel
theorem dX8_spill_70 : decode cX8_spill 70 = .ok (.iaload, 1) := by decide +kernel
theorem dX8_spill_71 : decode cX8_spill 71 = .ok (.iload_n 2, 1) := by decide +kernel
theorem dX8_spill_72 : decode cX8_spill 72 = .ok (.iadd, 1) := by decide +kernel
theorem dX8_spill_73 : decode cX8_spill 73 = .ok (.iastore, 1) := by decide +kernel
theorem dX8_spill_74 : decode cX8_spill 74 = .ok (.aload_n 0, 1) := by decide +kernel
theorem dX8_spill_75 : decode cX8_spill 75 = .ok (.iload_n 1, 1) := by decide +kernel
theorem dX8_spill_76 : decode cX8_spill 76 = .ok (.iconst 1, 1) := by decide +kernel
theorem dX8_spill_77 : decode cX8_spill 77 = .ok (.invokevirtual 102, 3) := by decide +kernel
theorem dX8_spill_80 : decode cX8_spill 80 = .ok (.ireturn, 1) := by decide +kernel
theorem dX8_isPartOf_0 : decode cX8_isPartOf 0 = .ok (.iconst 0, 1) := by decide +kernel
theorem dX8_isPartOf_1 : decode cX8_isPartOf 1 = .ok (.istore_n 3, 1) := by decide +kernel
theorem dX8_isPartOf_2 : decode cX8_isPartOf 2 = .ok (.iconst 0, 1) := by decide +kernel
theorem dX8_isPartOf_3 : decode cX8_isPartOf 3 = .ok (.istore 4, 2) := by decide +kernel
theorem dX8_isPartOf_5 : decode cX8_isPartOf 5 = .ok (.iload 4, 2) := by decide +kernel
theorem dX8_isPartOf_7 : decode cX8_isPartOf 7 = .ok (.aload_n 0, 1) := by decide +kernel
theorem dX8_isPartOf_8 : decode cX8_isPartOf 8 = .ok (.iload_n 2, 1) := by decide +kernel
theorem dX8_isPartOf_9 : decode cX8_isPartOf 9 = .ok (.iconst 2, 1) := by decide +kernel
theorem dX8_isPartOf_10 : decode cX8_isPartOf 10 = .ok (.invokevirtual 102, 3) := by decide +kernel
theorem dX8_isPartOf_13 : decode cX8_isPartOf 13 = .ok (.if_icmp .ge 32, 3) := by decide +kernel
theorem dX8_isPartOf_16 : decode cX8_isPartOf 16 = .ok (.iload_n 3, 1) := by decide +kernel
theorem dX8_isPartOf_17 : decode cX8_isPartOf 17 = .ok (.ifCond .ne 16, 3) := by decide +kernel
theorem dX8_isPartOf_20 : decode cX8_isPartOf 20 = .ok (.aload_n 0, 1) := by decide +kernel
theorem dX8_isPartOf_21 : decode cX8_isPartOf 21 = .ok (.iload_n 2, 1) := by decide +kernel
theorem dX8_isPartOf_22 : decode cX8_isPartOf 22 = .ok (.iconst 5, 1) := by decide +kernel
theorem dX8_isPartOf_23 : decode cX8_isPartOf 23 = .ok (.iload 4, 2) := by decide +kernel
theorem dX8_isPartOf_25 : decode cX8_isPartOf 25 = .ok (.iadd, 1) := by decide +kernel
theorem dX8_isPartOf_26 : decode cX8_isPartOf 26 = .ok (.invokevirtual 102, 3) := by decide +kernel
theorem dX8_isPartOf_29 : decode cX8_isPartOf 29 = .ok (.iload_n 1, 1) := by decide +kernel
theorem dX8_isPartOf_30 : decode cX8_isPartOf 30 = .ok (.if_icmp .ne 7, 3) := by decide +kernel
theorem dX8_isPartOf_33 : decode cX8_isPartOf 33 = .ok (.iconst 1, 1) := by decide +kernel
theorem dX8_isPartOf_34 : decode cX8_isPartOf 34 = .ok (.goto 4, 3) := by decide +kernel
theorem dX8_isPartOf_37 : decode cX8_isPartOf 37 = .ok (.iconst 0, 1) := by decide +kernel
theorem dX8_isPartOf_38 : decode cX8_isPartOf 38 = .ok (.istore_n 3, 1) := by decide +kernel
theorem dX8_isPartOf_39 : decode cX8_isPartOf 39 = .ok (.iinc 4 1, 3) := by decide +kernel
theorem dX8_isPartOf_42 : decode cX8_isPartOf 42 = .ok (.goto (-37), 3) := by decide +kernel
theorem dX8_isPartOf_45 : decode cX8_isPartOf 45 = .ok (.iload_n 3, 1) := by decide +kernel
theorem dX8_isPartOf_46 : decode cX8_isPartOf 46 = .ok (.ireturn, 1) := by decide +kernel
theorem dX8_blendsOf_0 : decode cX8_blendsOf 0 = .ok (.iconst 0, 1) := by decide +kernel
theorem dX8_blendsOf_1 : decode cX8_blendsOf 1 = .ok (.istore_n 2, 1) := by decide +kernel
theorem dX8_blendsOf_2 : decode cX8_blendsOf 2 = .ok (.iconst 0, 1) := by decide +kernel
theorem dX8_blendsOf_3 : decode cX8_blendsOf 3 = .ok (.istore_n 3, 1) := by decide +kernel
theorem dX8_blendsOf_4 : decode cX8_blendsOf 4 = .ok (.iload_n 3, 1) := by decide +kernel
theorem dX8_blendsOf_5 : decode cX8_blendsOf 5 = .ok (.aload_n 0, 1) := by decide +kernel
theorem dX8_blendsOf_6 : decode cX8_blendsOf 6 = .ok (.getfield 9, 3) := by decide +kernel
theorem dX8_blendsOf_9 : decode cX8_blendsOf 9 = .ok (.iconst 0, 1) := by decide +kernel
theorem dX8_blendsOf_10 : decode cX8_blendsOf 10 = .ok (.iaload, 1) := by decide +kernel
theorem dX8_blendsOf_11 : decode cX8_blendsOf 11 = .ok (.if_icmp .ge 26, 3) := by decide +kernel
theorem dX8_blendsOf_14 : decode cX8_blendsOf 14 = .ok (.iload_n 2, 1) := by decide +kernel
theorem dX8_blendsOf_15 : decode cX8_blendsOf 15 = .ok (.aload_n 0, 1) := by decide +kernel
theorem dX8_blendsOf_16 : decode cX8_blendsOf 16 = .ok (.iload_n 1, 1) := by decide +kernel
theorem dX8_blendsOf_17 : decode cX8_blendsOf 17 = .ok (.iload_n 3, 1) := by decide +kernel
theorem dX8_blendsOf_18 : decode cX8_blendsOf 18 = .ok (.invokevirtual 134, 3) := by decide +kernel
theorem dX8_blendsOf_21 : decode cX8_blendsOf 21 = .ok (.ifCond .eq 7, 3) := by decide +kernel
theorem dX8_blendsOf_24 : decode cX8_blendsOf 24 = .ok (.iconst 1, 1) := by decide +kernel
theorem dX8_blendsOf_25 : decode cX8_blendsOf 25 = .ok (.goto 4, 3) := by decide +kernel
theorem dX8_blendsOf_28 : decode cX8_blendsOf 28 = .ok (.iconst 0, 1) := by decide +kernel
theorem dX8_blendsOf_29 : decode cX8_blendsOf 29 = .ok (.iadd, 1) := by decide +kernel
theorem dX8_blendsOf_30 : decode cX8_blendsOf 30 = .ok (.istore_n 2, 1) := by decide +kernel
theorem dX8_blendsOf_31 : decode cX8_blendsOf 31 = .ok (.iinc 3 1, 3) := by decide +kernel
theorem dX8_blendsOf_34 : decode cX8_blendsOf 34 = .ok (.goto (-30), 3) := by decide +kernel
theorem dX8_blendsOf_37 : decode cX8_blendsOf 37 = .ok (.iload_n 2, 1) := by decide +kernel
theorem dX8_blendsOf_38 : decode cX8_blendsOf 38 = .ok (.ireturn, 1) := by decide +kernel
theorem dX8_harvestsIn_0 : decode cX8_harvestsIn 0 = .ok (.iconst 0, 1) := by decide +kernel
theorem dX8_harvestsIn_1 : decode cX8_harvestsIn 1 = .ok (.istore_n 2, 1) := by decide +kernel
theorem dX8_harvestsIn_2 : decode cX8_harvestsIn 2 = .ok (.iconst 0, 1) := by decide +kernel
theorem dX8_harvestsIn_3 : decode cX8_harvestsIn 3 = .ok (.istore_n 3, 1) := by decide +kernel
theorem dX8_harvestsIn_4 : decode cX8_harvestsIn 4 = .ok (.iload_n 3, 1) := by decide +kernel
theorem dX8_harvestsIn_5 : decode cX8_harvestsIn 5 = .ok (.aload_n 0, 1) := by decide +kernel
theorem dX8_harvestsIn_6 : decode cX8_harvestsIn 6 = .ok (.getfield 9, 3) := by decide +kernel
theorem dX8_harvestsIn_9 : decode cX8_harvestsIn 9 = .ok (.iconst 1, 1) := by decide +kernel
theorem dX8_harvestsIn_10 : decode cX8_harvestsIn 10 = .ok (.iaload, 1) := by decide +kernel
theorem dX8_harvestsIn_11 : decode cX8_harvestsIn 11 = .ok (.if_icmp .ge 29, 3) := by decide +kernel
theorem dX8_harvestsIn_14 : decode cX8_harvestsIn 14 = .ok (.iload_n 2, 1) := by decide +kernel
theorem dX8_harvestsIn_15 : decode cX8_harvestsIn 15 = .ok (.aload_n 0, 1) := by decide +kernel
theorem dX8_harvestsIn_16 : decode cX8_harvestsIn 16 = .ok (.iload_n 1, 1) := by decide +kernel
theorem dX8_harvestsIn_17 : decode cX8_harvestsIn 17 = .ok (.bipush 13, 2) := by decide +kernel
theorem dX8_harvestsIn_19 : decode cX8_harvestsIn 19 = .ok (.iload_n 3, 1) := by decide +kernel
theorem dX8_harvestsIn_20 : decode cX8_harvestsIn 20 = .ok (.iadd, 1) := by decide +kernel
theorem dX8_harvestsIn_21 : decode cX8_harvestsIn 21 = .ok (.invokevirtual 102, 3) := by decide +kernel
theorem dX8_harvestsIn_24 : decode cX8_harvestsIn 24 = .ok (.ifCond .le 7, 3) := by decide +kernel
theorem dX8_harvestsIn_27 : decode cX8_harvestsIn 27 = .ok (.iconst 1, 1) := by decide +kernel
theorem dX8_harvestsIn_28 : decode cX8_harvestsIn 28 = .ok (.goto 4, 3) := by decide +kernel
theorem dX8_harvestsIn_31 : decode cX8_harvestsIn 31 = .ok (.iconst 0, 1) := by decide +kernel
theorem dX8_harvestsIn_32 : decode cX8_harvestsIn 32 = .ok (.iadd, 1) := by decide +kernel
theorem dX8_harvestsIn_33 : decode cX8_harvestsIn 33 = .ok (.istore_n 2, 1) := by decide +kernel
theorem dX8_harvestsIn_34 : decode cX8_harvestsIn 34 = .ok (.iinc 3 1, 3) := by decide +kernel
theorem dX8_harvestsIn_37 : decode cX8_harvestsIn 37 = .ok (.goto (-33), 3) := by decide +kernel
theorem dX8_harvestsIn_40 : decode cX8_harvestsIn 40 = .ok (.iload_n 2, 1) := by decide +kernel
theorem dX8_harvestsIn_41 : decode cX8_harvestsIn 41 = .ok (.ireturn, 1) := by decide +kernel
theorem dX8_lot_0 : decode cX8_lot 0 = .ok (.aload_n 0, 1) := by decide +kernel
theorem dX8_lot_1 : decode cX8_lot 1 = .ok (.iconst 0, 1) := by decide +kernel
theorem dX8_lot_2 : decode cX8_lot 2 = .ok (.putfield 42, 3) := by decide +kernel
theorem dX8_lot_5 : decode cX8_lot 5 = .ok (.aload_n 0, 1) := by decide +kernel
theorem dX8_lot_6 : decode cX8_lot 6 = .ok (.iload_n 1, 1) := by decide +kernel
theorem dX8_lot_7 : decode cX8_lot 7 = .ok (.invokevirtual 98, 3) := by decide +kernel
theorem dX8_lot_10 : decode cX8_lot 10 = .ok (.ifCond .ne 9, 3) := by decide +kernel
theorem dX8_lot_13 : decode cX8_lot 13 = .ok (.aload_n 0, 1) := by decide +kernel
theorem dX8_lot_14 : decode cX8_lot 14 = .ok (.iconst 1, 1) := by decide +kernel
theorem dX8_lot_15 : decode cX8_lot 15 = .ok (.invokevirtual 48, 3) := by decide +kernel
theorem dX8_lot_18 : decode cX8_lot 18 = .ok (.ireturn, 1) := by decide +kernel
theorem dX8_lot_19 : decode cX8_lot 19 = .ok (.iload_n 2, 1) := by decide +kernel
theorem dX8_lot_20 : decode cX8_lot 20 = .ok (.iconst 0, 1) := by decide +kernel
theorem dX8_lot_21 : decode cX8_lot 21 = .ok (.iconst 4, 1) := by decide +kernel
theorem dX8_lot_22 : decode cX8_lot 22 = .ok (.invokestatic 55, 3) := by decide +kernel
theorem dX8_lot_25 : decode cX8_lot 25 = .ok (.ifCond .eq 10, 3) := by decide +kernel
theorem dX8_lot_28 : decode cX8_lot 28 = .ok (.aload_n 0, 1) := by decide +kernel
theorem dX8_lot_29 : decode cX8_lot 29 = .ok (.iload_n 1, 1) := by decide +kernel
theorem dX8_lot_30 : decode cX8_lot 30 = .ok (.iload_n 2, 1) := by decide +kernel
theorem dX8_lot_31 : decode cX8_lot 31 = .ok (.invokevirtual 102, 3) := by decide +kernel
theorem dX8_lot_34 : decode cX8_lot 34 = .ok (.ireturn, 1) := by decide +kernel
theorem dX8_lot_35 : decode cX8_lot 35 = .ok (.iload_n 2, 1) := by decide +kernel
theorem dX8_lot_36 : decode cX8_lot 36 = .ok (.iconst 5, 1) := by decide +kernel
theorem dX8_lot_37 : decode cX8_lot 37 = .ok (.if_icmp .ne 11, 3) := by decide +kernel
theorem dX8_lot_40 : decode cX8_lot 40 = .ok (.aload_n 0, 1) := by decide +kernel
theorem dX8_lot_41 : decode cX8_lot 41 = .ok (.iload_n 1, 1) := by decide +kernel
theorem dX8_lot_42 : decode cX8_lot 42 = .ok (.invokevirtual 138, 3) := by decide +kernel
theorem dX8_lot_45 : decode cX8_lot 45 = .ok (.goto 22, 3) := by decide +kernel
theorem dX8_lot_48 : decode cX8_lot 48 = .ok (.iload_n 2, 1) := by decide +kernel
theorem dX8_lot_49 : decode cX8_lot 49 = .ok (.bipush 6, 2) := by decide +kernel
theorem dX8_lot_51 : decode cX8_lot 51 = .ok (.if_icmp .ne 11, 3) := by decide +kernel
theorem dX8_lot_54 : decode cX8_lot 54 = .ok (.aload_n 0, 1) := by decide +kernel
theorem dX8_lot_55 : decode cX8_lot 55 = .ok (.iload_n 1, 1) := by decide +kernel
theorem dX8_lot_56 : decode cX8_lot 56 = .ok (.invokevirtual 141, 3) := by decide +kernel
theorem dX8_lot_59 : decode cX8_lot 59 = .ok (.goto 8, 3) := by decide +kernel
theorem dX8_lot_62 : decode cX8_lot 62 = .ok (.aload_n 0, 1) := by decide +kernel
theorem dX8_lot_63 : decode cX8_lot 63 = .ok (.iconst 2, 1) := by decide +kernel
theorem dX8_lot_64 : decode cX8_lot 64 = .ok (.invokevirtual 48, 3) := by decide +kernel
theorem dX8_lot_67 : decode cX8_lot 67 = .ok (.ireturn, 1) := by decide +kernel
theorem dX8_part_0 : decode cX8_part 0 = .ok (.aload_n 0, 1) := by decide +kernel
theorem dX8_part_1 : decode cX8_part 1 = .ok (.iconst 0, 1) := by decide +kernel
theorem dX8_part_2 : decode cX8_part 2 = .ok (.putfield 42, 3) := by decide +kernel
theorem dX8_part_5 : decode cX8_part 5 = .ok (.aload_n 0, 1) := by decide +kernel
theorem dX8_part_6 : decode cX8_part 6 = .ok (.iload_n 1, 1) := by decide +kernel
theorem dX8_part_7 : decode cX8_part 7 = .ok (.invokevirtual 98, 3) := by decide +kernel
theorem dX8_part_10 : decode cX8_part 10 = .ok (.ifCond .ne 9, 3) := by decide +kernel
theorem dX8_part_13 : decode cX8_part 13 = .ok (.aload_n 0, 1) := by decide +kernel
theorem dX8_part_14 : decode cX8_part 14 = .ok (.iconst 1, 1) := by decide +kernel
theorem dX8_part_15 : decode cX8_part 15 = .ok (.invokevirtual 48, 3) := by decide +kernel
theorem dX8_part_18 : decode cX8_part 18 = .ok (.ireturn, 1) := by decide +kernel
theorem dX8_part_19 : decode cX8_part 19 = .ok (.iload_n 2, 1) := by decide +kernel
theorem dX8_part_20 : decode cX8_part 20 = .ok (.iconst 0, 1) := by decide +kernel
theorem dX8_part_21 : decode cX8_part 21 = .ok (.aload_n 0, 1) := by decide +kernel
theorem dX8_part_22 : decode cX8_part 22 = .ok (.iload_n 1, 1) := by decide +kernel
theorem dX8_part_23 : decode cX8_part 23 = .ok (.iconst 2, 1) := by decide +kernel
theorem dX8_part_24 : decode cX8_part 24 = .ok (.invokevirtual 102, 3) := by decide +kernel
theorem dX8_part_27 : decode cX8_part 27 = .ok (.iconst 1, 1) := by decide +kernel
theorem dX8_part_28 : decode cX8_part 28 = .ok (.isub, 1) := by decide +kernel
theorem dX8_part_29 : decode cX8_part 29 = .ok (.invokestatic 55, 3) := by decide +kernel
theorem dX8_part_32 : decode cX8_part 32 = .ok (.ifCond .ne 9, 3) := by decide +kernel
theorem dX8_part_35 : decode cX8_part 35 = .ok (.aload_n 0, 1) := by decide +kernel
theorem dX8_part_36 : decode cX8_part 36 = .ok (.iconst 2, 1) := by decide +kernel
theorem dX8_part_37 : decode cX8_part 37 = .ok (.invokevirtual 48, 3) := by decide +kernel
theorem dX8_part_40 : decode cX8_part 40 = .ok (.ireturn, 1) := by decide +kernel
theorem dX8_part_41 : decode cX8_part 41 = .ok (.iload_n 3, 1) := by decide +kernel
theorem dX8_part_42 : decode cX8_part 42 = .ok (.ifCond .ne 14, 3) := by decide +kernel
theorem dX8_part_45 : decode cX8_part 45 = .ok (.aload_n 0, 1) := by decide +kernel
theorem dX8_part_46 : decode cX8_part 46 = .ok (.iload_n 1, 1) := by decide +kernel
theorem dX8_part_47 : decode cX8_part 47 = .ok (.iconst 5, 1) := by decide +kernel
theorem dX8_part_48 : decode cX8_part 48 = .ok (.iload_n 2, 1) := by decide +kernel
theorem dX8_part_49 : decode cX8_part 49 = .ok (.iadd, 1) := by decide +kernel
theorem dX8_part_50 : decode cX8_part 50 = .ok (.invokevirtual 102, 3) := by decide +kernel
theorem dX8_part_53 : decode cX8_part 53 = .ok (.goto 25, 3) := by decide +kernel
theorem dX8_part_56 : decode cX8_part 56 = .ok (.iload_n 3, 1) := by decide +kernel
theorem dX8_part_57 : decode cX8_part 57 = .ok (.iconst 1, 1) := by decide +kernel
theorem dX8_part_58 : decode cX8_part 58 = .ok (.if_icmp .ne 15, 3) := by decide +kernel
theorem dX8_part_61 : decode cX8_part 61 = .ok (.aload_n 0, 1) := by decide +kernel
theorem dX8_part_62 : decode cX8_part 62 = .ok (.iload_n 1, 1) := by decide +kernel
theorem dX8_part_63 : decode cX8_part 63 = .ok (.bipush 9, 2) := by decide +kernel
theorem dX8_part_65 : decode cX8_part 65 = .ok (.iload_n 2, 1) := by decide +kernel
theorem dX8_part_66 : decode cX8_part 66 = .ok (.iadd, 1) := by decide +kernel
theorem dX8_part_67 : decode cX8_part 67 = .ok (.invokevirtual 102, 3) := by decide +kernel
theorem dX8_part_70 : decode cX8_part 70 = .ok (.goto 8, 3) := by decide +kernel
theorem dX8_part_73 : decode cX8_part 73 = .ok (.aload_n 0, 1) := by decide +kernel
theorem dX8_part_74 : decode cX8_part 74 = .ok (.iconst 3, 1) := by decide +kernel
theorem dX8_part_75 : decode cX8_part 75 = .ok (.invokevirtual 48, 3) := by decide +kernel
theorem dX8_part_78 : decode cX8_part 78 = .ok (.ireturn, 1) := by decide +kernel
theorem dX8_shareOf_0 : decode cX8_shareOf 0 = .ok (.iconst 0, 1) := by decide +kernel
theorem dX8_shareOf_1 : decode cX8_shareOf 1 = .ok (.istore 4, 2) := by decide +kernel
theorem dX8_shareOf_3 : decode cX8_shareOf 3 = .ok (.iconst 0, 1) := by decide +kernel
theorem dX8_shareOf_4 : decode cX8_shareOf 4 = .ok (.istore 5, 2) := by decide +kernel
theorem dX8_shareOf_6 : decode cX8_shareOf 6 = .ok (.iload 5, 2) := by decide +kernel
theorem dX8_shareOf_8 : decode cX8_shareOf 8 = .ok (.aload_n 0, 1) := by decide +kernel
theorem dX8_shareOf_9 : decode cX8_shareOf 9 = .ok (.getfield 9, 3) := by decide +kernel
theorem dX8_shareOf_12 : decode cX8_shareOf 12 = .ok (.iconst 1, 1) := by decide +kernel
theorem dX8_shareOf_13 : decode cX8_shareOf 13 = .ok (.iaload, 1) := by decide +kernel
theorem dX8_shareOf_14 : decode cX8_shareOf 14 = .ok (.if_icmp .ge 39, 3) := by decide +kernel
theorem dX8_shareOf_17 : decode cX8_shareOf 17 = .ok (.iload 4, 2) := by decide +kernel
theorem dX8_shareOf_19 : decode cX8_shareOf 19 = .ok (.aload_n 0, 1) := by decide +kernel
theorem dX8_shareOf_20 : decode cX8_shareOf 20 = .ok (.iload 5, 2) := by decide +kernel
theorem dX8_shareOf_22 : decode cX8_shareOf 22 = .ok (.iload_n 2, 1) := by decide +kernel
theorem dX8_shareOf_23 : decode cX8_shareOf 23 = .ok (.invokevirtual 144, 3) := by decide +kernel
theorem dX8_shareOf_26 : decode cX8_shareOf 26 = .ok (.iload_n 3, 1) := by decide +kernel
theorem dX8_shareOf_27 : decode cX8_shareOf 27 = .ok (.if_icmp .ne 16, 3) := by decide +kernel
theorem dX8_shareOf_30 : decode cX8_shareOf 30 = .ok (.aload_n 0, 1) := by decide +kernel
theorem dX8_shareOf_31 : decode cX8_shareOf 31 = .ok (.iload_n 1, 1) := by decide +kernel
theorem dX8_shareOf_32 : decode cX8_shareOf 32 = .ok (.bipush 13, 2) := by decide +kernel
theorem dX8_shareOf_34 : decode cX8_shareOf 34 = .ok (.iload 5, 2) := by decide +kernel
theorem dX8_shareOf_36 : decode cX8_shareOf 36 = .ok (.iadd, 1) := by decide +kernel
theorem dX8_shareOf_37 : decode cX8_shareOf 37 = .ok (.invokevirtual 102, 3) := by decide +kernel
theorem dX8_shareOf_40 : decode cX8_shareOf 40 = .ok (.goto 4, 3) := by decide +kernel
theorem dX8_shareOf_43 : decode cX8_shareOf 43 = .ok (.iconst 0, 1) := by decide +kernel
theorem dX8_shareOf_44 : decode cX8_shareOf 44 = .ok (.iadd, 1) := by decide +kernel
theorem dX8_shareOf_45 : decode cX8_shareOf 45 = .ok (.istore 4, 2) := by decide +kernel
theorem dX8_shareOf_47 : decode cX8_shareOf 47 = .ok (.iinc 5 1, 3) := by decide +kernel
theorem dX8_shareOf_50 : decode cX8_shareOf 50 = .ok (.goto (-44), 3) := by decide +kernel
theorem dX8_shareOf_53 : decode cX8_shareOf 53 = .ok (.iload 4, 2) := by decide +kernel
theorem dX8_shareOf_55 : decode cX8_shareOf 55 = .ok (.ireturn, 1) := by decide +kernel
theorem dX8_mostOf_0 : decode cX8_mostOf 0 = .ok (.iload_n 0, 1) := by decide +kernel
theorem dX8_mostOf_1 : decode cX8_mostOf 1 = .ok (.ifCond .ne 8, 3) := by decide +kernel
theorem dX8_mostOf_4 : decode cX8_mostOf 4 = .ok (.bipush 99, 2) := by decide +kernel
theorem dX8_mostOf_6 : decode cX8_mostOf 6 = .ok (.goto 13, 3) := by decide +kernel
theorem dX8_mostOf_9 : decode cX8_mostOf 9 = .ok (.iload_n 0, 1) := by decide +kernel
theorem dX8_mostOf_10 : decode cX8_mostOf 10 = .ok (.iconst 1, 1) := by decide +kernel
theorem dX8_mostOf_11 : decode cX8_mostOf 11 = .ok (.if_icmp .ne 7, 3) := by decide +kernel
theorem dX8_mostOf_14 : decode cX8_mostOf 14 = .ok (.iconst 4, 1) := by decide +kernel
theorem dX8_mostOf_15 : decode cX8_mostOf 15 = .ok (.goto 4, 3) := by decide +kernel
theorem dX8_mostOf_18 : decode cX8_mostOf 18 = .ok (.iconst 3, 1) := by decide +kernel
theorem dX8_mostOf_19 : decode cX8_mostOf 19 = .ok (.ireturn, 1) := by decide +kernel
theorem dX8_share_0 : decode cX8_share 0 = .ok (.aload_n 0, 1) := by decide +kernel
theorem dX8_share_1 : decode cX8_share 1 = .ok (.iconst 0, 1) := by decide +kernel
theorem dX8_share_2 : decode cX8_share 2 = .ok (.putfield 42, 3) := by decide +kernel
theorem dX8_share_5 : decode cX8_share 5 = .ok (.aload_n 0, 1) := by decide +kernel
theorem dX8_share_6 : decode cX8_share 6 = .ok (.iload_n 1, 1) := by decide +kernel
theorem dX8_share_7 : decode cX8_share 7 = .ok (.invokevirtual 98, 3) := by decide +kernel
theorem dX8_share_10 : decode cX8_share 10 = .ok (.ifCond .ne 9, 3) := by decide +kernel
theorem dX8_share_13 : decode cX8_share 13 = .ok (.aload_n 0, 1) := by decide +kernel
theorem dX8_share_14 : decode cX8_share 14 = .ok (.iconst 1, 1) := by decide +kernel
theorem dX8_share_15 : decode cX8_share 15 = .ok (.invokevirtual 48, 3) := by decide +kernel
theorem dX8_share_18 : decode cX8_share 18 = .ok (.ireturn, 1) := by decide +kernel
theorem dX8_share_19 : decode cX8_share 19 = .ok (.iload_n 2, 1) := by decide +kernel
theorem dX8_share_20 : decode cX8_share 20 = .ok (.iconst 0, 1) := by decide +kernel
theorem dX8_share_21 : decode cX8_share 21 = .ok (.iconst 3, 1) := by decide +kernel
theorem dX8_share_22 : decode cX8_share 22 = .ok (.invokestatic 55, 3) := by decide +kernel
theorem dX8_share_25 : decode cX8_share 25 = .ok (.ifCond .eq 32, 3) := by decide +kernel
theorem dX8_share_28 : decode cX8_share 28 = .ok (.iload_n 3, 1) := by decide +kernel
theorem dX8_share_29 : decode cX8_share 29 = .ok (.iconst 0, 1) := by decide +kernel
theorem dX8_share_30 : decode cX8_share 30 = .ok (.iload_n 2, 1) := by decide +kernel
theorem dX8_share_31 : decode cX8_share 31 = .ok (.ifCond .ne 14, 3) := by decide +kernel
theorem dX8_share_34 : decode cX8_share 34 = .ok (.aload_n 0, 1) := by decide +kernel
theorem dX8_share_35 : decode cX8_share 35 = .ok (.getfield 9, 3) := by decide +kernel
theorem dX8_share_38 : decode cX8_share 38 = .ok (.iconst 1, 1) := by decide +kernel
theorem dX8_share_39 : decode cX8_share 39 = .ok (.iaload, 1) := by decide +kernel
theorem dX8_share_40 : decode cX8_share 40 = .ok (.iconst 1, 1) := by decide +kernel
theorem dX8_share_41 : decode cX8_share 41 = .ok (.isub, 1) := by decide +kernel
theorem dX8_share_42 : decode cX8_share 42 = .ok (.goto 9, 3) := by decide +kernel
theorem dX8_share_45 : decode cX8_share 45 = .ok (.iload_n 2, 1) := by decide +kernel
theorem dX8_share_46 : decode cX8_share 46 = .ok (.iconst 1, 1) := by decide +kernel
theorem dX8_share_47 : decode cX8_share 47 = .ok (.isub, 1) := by decide +kernel
theorem dX8_share_48 : decode cX8_share 48 = .ok (.invokestatic 147, 3) := by decide +kernel
theorem dX8_share_51 : decode cX8_share 51 = .ok (.invokestatic 55, 3) := by decide +kernel
theorem dX8_share_54 : decode cX8_share 54 = .ok (.ifCond .ne 9, 3) := by decide +kernel
theorem dX8_share_57 : decode cX8_share 57 = .ok (.aload_n 0, 1) := by decide +kernel
theorem dX8_share_58 : decode cX8_share 58 = .ok (.iconst 2, 1) := by decide +kernel
theorem dX8_share_59 : decode cX8_share 59 = .ok (.invokevirtual 48, 3) := by decide +kernel
theorem dX8_share_62 : decode cX8_share 62 = .ok (.ireturn, 1) := by decide +kernel
theorem dX8_share_63 : decode cX8_share 63 = .ok (.iload_n 2, 1) := by decide +kernel
theorem dX8_share_64 : decode cX8_share 64 = .ok (.ifCond .ne 15, 3) := by decide +kernel
theorem dX8_share_67 : decode cX8_share 67 = .ok (.aload_n 0, 1) := by decide +kernel
theorem dX8_share_68 : decode cX8_share 68 = .ok (.iload_n 1, 1) := by decide +kernel
theorem dX8_share_69 : decode cX8_share 69 = .ok (.bipush 13, 2) := by decide +kernel
theorem dX8_share_71 : decode cX8_share 71 = .ok (.iload_n 3, 1) := by decide +kernel
theorem dX8_share_72 : decode cX8_share 72 = .ok (.iadd, 1) := by decide +kernel
theorem dX8_share_73 : decode cX8_share 73 = .ok (.invokevirtual 102, 3) := by decide +kernel
theorem dX8_share_76 : decode cX8_share 76 = .ok (.goto 12, 3) := by decide +kernel
theorem dX8_share_79 : decode cX8_share 79 = .ok (.aload_n 0, 1) := by decide +kernel
theorem dX8_share_80 : decode cX8_share 80 = .ok (.iload_n 1, 1) := by decide +kernel
theorem dX8_share_81 : decode cX8_share 81 = .ok (.iload_n 2, 1) := by decide +kernel
theorem dX8_share_82 : decode cX8_share 82 = .ok (.iconst 1, 1) := by decide +kernel
theorem dX8_share_83 : decode cX8_share 83 = .ok (.isub, 1) := by decide +kernel
theorem dX8_share_84 : decode cX8_share 84 = .ok (.iload_n 3, 1) := by decide +kernel
theorem dX8_share_85 : decode cX8_share 85 = .ok (.invokevirtual 150, 3) := by decide +kernel
theorem dX8_share_88 : decode cX8_share 88 = .ok (.ireturn, 1) := by decide +kernel
theorem dX8_greatest_0 : decode cX8_greatest 0 = .ok (.aload_n 0, 1) := by decide +kernel
theorem dX8_greatest_1 : decode cX8_greatest 1 = .ok (.iconst 0, 1) := by decide +kernel
theorem dX8_greatest_2 : decode cX8_greatest 2 = .ok (.putfield 42, 3) := by decide +kernel
theorem dX8_greatest_5 : decode cX8_greatest 5 = .ok (.aload_n 0, 1) := by decide +kernel
theorem dX8_greatest_6 : decode cX8_greatest 6 = .ok (.iload_n 1, 1) := by decide +kernel
theorem dX8_greatest_7 : decode cX8_greatest 7 = .ok (.invokevirtual 98, 3) := by decide +kernel
theorem dX8_greatest_10 : decode cX8_greatest 10 = .ok (.ifCond .ne 9, 3) := by decide +kernel
theorem dX8_greatest_13 : decode cX8_greatest 13 = .ok (.aload_n 0, 1) := by decide +kernel
theorem dX8_greatest_14 : decode cX8_greatest 14 = .ok (.iconst 1, 1) := by decide +kernel
theorem dX8_greatest_15 : decode cX8_greatest 15 = .ok (.invokevirtual 48, 3) := by decide +kernel
theorem dX8_greatest_18 : decode cX8_greatest 18 = .ok (.ireturn, 1) := by decide +kernel
theorem dX8_greatest_19 : decode cX8_greatest 19 = .ok (.iconst 0, 1) := by decide +kernel
theorem dX8_greatest_20 : decode cX8_greatest 20 = .ok (.istore_n 3, 1) := by decide +kernel
theorem dX8_greatest_21 : decode cX8_greatest 21 = .ok (.iload_n 3, 1) := by decide +kernel
theorem dX8_greatest_22 : decode cX8_greatest 22 = .ok (.aload_n 0, 1) := by decide +kernel
theorem dX8_greatest_23 : decode cX8_greatest 23 = .ok (.getfield 9, 3) := by decide +kernel
theorem dX8_greatest_26 : decode cX8_greatest 26 = .ok (.iconst 1, 1) := by decide +kernel
theorem dX8_greatest_27 : decode cX8_greatest 27 = .ok (.iaload, 1) := by decide +kernel
theorem dX8_greatest_28 : decode cX8_greatest 28 = .ok (.if_icmp .ge 97, 3) := by decide +kernel
theorem dX8_greatest_31 : decode cX8_greatest 31 = .ok (.aload_n 0, 1) := by decide +kernel
theorem dX8_greatest_32 : decode cX8_greatest 32 = .ok (.iload_n 1, 1) := by decide +kernel
theorem dX8_greatest_33 : decode cX8_greatest 33 = .ok (.bipush 13, 2) := by decide +kernel
theorem dX8_greatest_35 : decode cX8_greatest 35 = .ok (.iload_n 3, 1) := by decide +kernel
theorem dX8_greatest_36 : decode cX8_greatest 36 = .ok (.iadd, 1) := by decide +kernel
theorem dX8_greatest_37 : decode cX8_greatest 37 = .ok (.invokevirtual 102, 3) := by decide +kernel
theorem dX8_greatest_40 : decode cX8_greatest 40 = .ok (.istore 4, 2) := by decide +kernel
theorem dX8_greatest_42 : decode cX8_greatest 42 = .ok (.iconst 0, 1) := by decide +kernel
theorem dX8_greatest_43 : decode cX8_greatest 43 = .ok (.istore 5, 2) := by decide +kernel
theorem dX8_greatest_45 : decode cX8_greatest 45 = .ok (.iconst 0, 1) := by decide +kernel
theorem dX8_greatest_46 : decode cX8_greatest 46 = .ok (.istore 6, 2) := by decide +kernel
theorem dX8_greatest_48 : decode cX8_greatest 48 = .ok (.iload 6, 2) := by decide +kernel
theorem dX8_greatest_50 : decode cX8_greatest 50 = .ok (.aload_n 0, 1) := by decide +kernel
theorem dX8_greatest_51 : decode cX8_greatest 51 = .ok (.getfield 9, 3) := by decide +kernel
theorem dX8_greatest_54 : decode cX8_greatest 54 = .ok (.iconst 1, 1) := by decide +kernel
theorem dX8_greatest_55 : decode cX8_greatest 55 = .ok (.iaload, 1) := by decide +kernel
theorem dX8_greatest_56 : decode cX8_greatest 56 = .ok (.if_icmp .ge 50, 3) := by decide +kernel
theorem dX8_greatest_59 : decode cX8_greatest 59 = .ok (.aload_n 0, 1) := by decide +kernel
theorem dX8_greatest_60 : decode cX8_greatest 60 = .ok (.iload_n 1, 1) := by decide +kernel
theorem dX8_greatest_61 : decode cX8_greatest 61 = .ok (.bipush 13, 2) := by decide +kernel
theorem dX8_greatest_63 : decode cX8_greatest 63 = .ok (.iload 6, 2) := by decide +kernel
theorem dX8_greatest_65 : decode cX8_greatest 65 = .ok (.iadd, 1) := by decide +kernel
theorem dX8_greatest_66 : decode cX8_greatest 66 = .ok (.invokevirtual 102, 3) := by decide +kernel
theorem dX8_greatest_69 : decode cX8_greatest 69 = .ok (.iload 4, 2) := by decide +kernel
theorem dX8_greatest_71 : decode cX8_greatest 71 = .ok (.isub, 1) := by decide +kernel
theorem dX8_greatest_72 : decode cX8_greatest 72 = .ok (.istore 7, 2) := by decide +kernel
theorem dX8_greatest_74 : decode cX8_greatest 74 = .ok (.iload 5, 2) := by decide +kernel
theorem dX8_greatest_76 : decode cX8_greatest 76 = .ok (.iload 7, 2) := by decide +kernel
theorem dX8_greatest_78 : decode cX8_greatest 78 = .ok (.ifCond .gt 14, 3) := by decide +kernel
theorem dX8_greatest_81 : decode cX8_greatest 81 = .ok (.iload 7, 2) := by decide +kernel
theorem dX8_greatest_83 : decode cX8_greatest 83 = .ok (.ifCond .ne 13, 3) := by decide +kernel
theorem dX8_greatest_86 : decode cX8_greatest 86 = .ok (.iload 6, 2) := by decide +kernel
theorem dX8_greatest_88 : decode cX8_greatest 88 = .ok (.iload_n 3, 1) := by decide +kernel
theorem dX8_greatest_89 : decode cX8_greatest 89 = .ok (.if_icmp .ge 7, 3) := by decide +kernel
theorem dX8_greatest_92 : decode cX8_greatest 92 = .ok (.iconst 1, 1) := by decide +kernel
theorem dX8_greatest_93 : decode cX8_greatest 93 = .ok (.goto 4, 3) := by decide +kernel
theorem dX8_greatest_96 : decode cX8_greatest 96 = .ok (.iconst 0, 1) := by decide +kernel
theorem dX8_greatest_97 : decode cX8_greatest 97 = .ok (.iadd, 1) := by decide +kernel
theorem dX8_greatest_98 : decode cX8_greatest 98 = .ok (.istore 5, 2) := by decide +kernel
theorem dX8_greatest_100 : decode cX8_greatest 100 = .ok (.iinc 6 1, 3) := by decide +kernel
theorem dX8_greatest_103 : decode cX8_greatest 103 = .ok (.goto (-55), 3) := by decide +kernel
theorem dX8_greatest_106 : decode cX8_greatest 106 = .ok (.iload 4, 2) := by decide +kernel
theorem dX8_greatest_108 : decode cX8_greatest 108 = .ok (.ifCond .le 11, 3) := by decide +kernel
theorem dX8_greatest_111 : decode cX8_greatest 111 = .ok (.iload 5, 2) := by decide +kernel
theorem dX8_greatest_113 : decode cX8_greatest 113 = .ok (.iload_n 2, 1) := by decide +kernel
theorem dX8_greatest_114 : decode cX8_greatest 114 = .ok (.if_icmp .ne 5, 3) := by decide +kernel
theorem dX8_greatest_117 : decode cX8_greatest 117 = .ok (.iload_n 3, 1) := by decide +kernel
theorem dX8_greatest_118 : decode cX8_greatest 118 = .ok (.ireturn, 1) := by decide +kernel
theorem dX8_greatest_119 : decode cX8_greatest 119 = .ok (.iinc 3 1, 3) := by decide +kernel
theorem dX8_greatest_122 : decode cX8_greatest 122 = .ok (.goto (-101), 3) := by decide +kernel
theorem dX8_greatest_125 : decode cX8_greatest 125 = .ok (.aload_n 0, 1) := by decide +kernel
theorem dX8_greatest_126 : decode cX8_greatest 126 = .ok (.iconst 2, 1) := by decide +kernel
theorem dX8_greatest_127 : decode cX8_greatest 127 = .ok (.invokevirtual 48, 3) := by decide +kernel
theorem dX8_greatest_130 : decode cX8_greatest 130 = .ok (.ireturn, 1) := by decide +kernel
theorem dX8_meanVintage_0 : decode cX8_meanVintage 0 = .ok (.aload_n 0, 1) := by decide +kernel
theorem dX8_meanVintage_1 : decode cX8_meanVintage 1 = .ok (.aload_n 0, 1) := by decide +kernel
theorem dX8_meanVintage_2 : decode cX8_meanVintage 2 = .ok (.iload_n 1, 1) := by decide +kernel
theorem dX8_meanVintage_3 : decode cX8_meanVintage 3 = .ok (.invokevirtual 98, 3) := by decide +kernel
theorem dX8_meanVintage_6 : decode cX8_meanVintage 6 = .ok (.ifCond .eq 7, 3) := by decide +kernel
theorem dX8_meanVintage_9 : decode cX8_meanVintage 9 = .ok (.iconst 0, 1) := by decide +kernel
theorem dX8_meanVintage_10 : decode cX8_meanVintage 10 = .ok (.goto 4, 3) := by decide +kernel
theorem dX8_meanVintage_13 : decode cX8_meanVintage 13 = .ok (.iconst 1, 1) := by decide +kernel
theorem dX8_meanVintage_14 : decode cX8_meanVintage 14 = .ok (.putfield 42, 3) := by decide +kernel
theorem dX8_meanVintage_17 : decode cX8_meanVintage 17 = .ok (.iconst 0, 1) := by decide +kernel
theorem dX8_meanVintage_18 : decode cX8_meanVintage 18 = .ok (.istore_n 2, 1) := by decide +kernel
theorem dX8_meanVintage_19 : decode cX8_meanVintage 19 = .ok (.iconst 0, 1) := by decide +kernel
theorem dX8_meanVintage_20 : decode cX8_meanVintage 20 = .ok (.istore_n 3, 1) := by decide +kernel
theorem dX8_meanVintage_21 : decode cX8_meanVintage 21 = .ok (.iload_n 3, 1) := by decide +kernel
theorem dX8_meanVintage_22 : decode cX8_meanVintage 22 = .ok (.aload_n 0, 1) := by decide +kernel
theorem dX8_meanVintage_23 : decode cX8_meanVintage 23 = .ok (.getfield 9, 3) := by decide +kernel
theorem dX8_meanVintage_26 : decode cX8_meanVintage 26 = .ok (.iconst 1, 1) := by decide +kernel
theorem dX8_meanVintage_27 : decode cX8_meanVintage 27 = .ok (.iaload, 1) := by decide +kernel
theorem dX8_meanVintage_28 : decode cX8_meanVintage 28 = .ok (.if_icmp .ge 35, 3) := by decide +kernel
theorem dX8_meanVintage_31 : decode cX8_meanVintage 31 = .ok (.aload_n 0, 1) := by decide +kernel
theorem dX8_meanVintage_32 : decode cX8_meanVintage 32 = .ok (.getfield 42, 3) := by decide +kernel
theorem dX8_meanVintage_35 : decode cX8_meanVintage 35 = .ok (.ifCond .ne 28, 3) := by decide +kernel
theorem dX8_meanVintage_38 : decode cX8_meanVintage 38 = .ok (.iload_n 2, 1) := by decide +kernel
theorem dX8_meanVintage_39 : decode cX8_meanVintage 39 = .ok (.aload_n 0, 1) := by decide +kernel
theorem dX8_meanVintage_40 : decode cX8_meanVintage 40 = .ok (.iload_n 1, 1) := by decide +kernel
theorem dX8_meanVintage_41 : decode cX8_meanVintage 41 = .ok (.bipush 13, 2) := by decide +kernel
theorem dX8_meanVintage_43 : decode cX8_meanVintage 43 = .ok (.iload_n 3, 1) := by decide +kernel
theorem dX8_meanVintage_44 : decode cX8_meanVintage 44 = .ok (.iadd, 1) := by decide +kernel
theorem dX8_meanVintage_45 : decode cX8_meanVintage 45 = .ok (.invokevirtual 102, 3) := by decide +kernel
theorem dX8_meanVintage_48 : decode cX8_meanVintage 48 = .ok (.aload_n 0, 1) := by decide +kernel
theorem dX8_meanVintage_49 : decode cX8_meanVintage 49 = .ok (.iload_n 3, 1) := by decide +kernel
theorem dX8_meanVintage_50 : decode cX8_meanVintage 50 = .ok (.iconst 0, 1) := by decide +kernel
theorem dX8_meanVintage_51 : decode cX8_meanVintage 51 = .ok (.invokevirtual 144, 3) := by decide +kernel
theorem dX8_meanVintage_54 : decode cX8_meanVintage 54 = .ok (.imul, 1) := by decide +kernel
theorem dX8_meanVintage_55 : decode cX8_meanVintage 55 = .ok (.iadd, 1) := by decide +kernel
theorem dX8_meanVintage_56 : decode cX8_meanVintage 56 = .ok (.istore_n 2, 1) := by decide +kernel
theorem dX8_meanVintage_57 : decode cX8_meanVintage 57 = .ok (.iinc 3 1, 3) := by decide +kernel
theorem dX8_meanVintage_60 : decode cX8_meanVintage 60 = .ok (.goto (-39), 3) := by decide +kernel
theorem dX8_meanVintage_63 : decode cX8_meanVintage 63 = .ok (.iload_n 2, 1) := by decide +kernel
theorem dX8_meanVintage_64 : decode cX8_meanVintage 64 = .ok (.i2d, 1) := by decide +kernel
theorem dX8_meanVintage_65 : decode cX8_meanVintage 65 = .ok (.ldc2_w 153, 3) := by decide +kernel
theorem dX8_meanVintage_68 : decode cX8_meanVintage 68 = .ok (.ddiv, 1) := by decide +kernel
theorem dX8_meanVintage_69 : decode cX8_meanVintage 69 = .ok (.dreturn, 1) := by decide +kernel
theorem dX8_setLaw_0 : decode cX8_setLaw 0 = .ok (.aload_n 0, 1) := by decide +kernel
theorem dX8_setLaw_1 : decode cX8_setLaw 1 = .ok (.iconst 0, 1) := by decide +kernel
theorem dX8_setLaw_2 : decode cX8_setLaw 2 = .ok (.putfield 42, 3) := by decide +kernel
theorem dX8_setLaw_5 : decode cX8_setLaw 5 = .ok (.iload_n 1, 1) := by decide +kernel
theorem dX8_setLaw_6 : decode cX8_setLaw 6 = .ok (.iconst 0, 1) := by decide +kernel
theorem dX8_setLaw_7 : decode cX8_setLaw 7 = .ok (.iconst 2, 1) := by decide +kernel
theorem dX8_setLaw_8 : decode cX8_setLaw 8 = .ok (.invokestatic 55, 3) := by decide +kernel
theorem dX8_setLaw_11 : decode cX8_setLaw 11 = .ok (.ifCond .ne 9, 3) := by decide +kernel
theorem dX8_setLaw_14 : decode cX8_setLaw 14 = .ok (.aload_n 0, 1) := by decide +kernel
theorem dX8_setLaw_15 : decode cX8_setLaw 15 = .ok (.iconst 1, 1) := by decide +kernel
theorem dX8_setLaw_16 : decode cX8_setLaw 16 = .ok (.invokevirtual 48, 3) := by decide +kernel
theorem dX8_setLaw_19 : decode cX8_setLaw 19 = .ok (.ireturn, 1) := by decide +kernel
theorem dX8_setLaw_20 : decode cX8_setLaw 20 = .ok (.iload_n 2, 1) := by decide +kernel
theorem dX8_setLaw_21 : decode cX8_setLaw 21 = .ok (.sipush 500, 3) := by decide +kernel
theorem dX8_setLaw_24 : decode cX8_setLaw 24 = .ok (.sipush 1000, 3) := by decide +kernel
theorem dX8_setLaw_27 : decode cX8_setLaw 27 = .ok (.invokestatic 55, 3) := by decide +kernel
theorem dX8_setLaw_30 : decode cX8_setLaw 30 = .ok (.ifCond .ne 9, 3) := by decide +kernel
theorem dX8_setLaw_33 : decode cX8_setLaw 33 = .ok (.aload_n 0, 1) := by decide +kernel
theorem dX8_setLaw_34 : decode cX8_setLaw 34 = .ok (.iconst 2, 1) := by decide +kernel
theorem dX8_setLaw_35 : decode cX8_setLaw 35 = .ok (.invokevirtual 48, 3) := by decide +kernel
theorem dX8_setLaw_38 : decode cX8_setLaw 38 = .ok (.ireturn, 1) := by decide +kernel
theorem dX8_setLaw_39 : decode cX8_setLaw 39 = .ok (.aload_n 0, 1) := by decide +kernel
theorem dX8_setLaw_40 : decode cX8_setLaw 40 = .ok (.getfield 9, 3) := by decide +kernel
theorem dX8_setLaw_43 : decode cX8_setLaw 43 = .ok (.iconst 5, 1) := by decide +kernel
theorem dX8_setLaw_44 : decode cX8_setLaw 44 = .ok (.iload_n 1, 1) := by decide +kernel
theorem dX8_setLaw_45 : decode cX8_setLaw 45 = .ok (.iadd, 1) := by decide +kernel
theorem dX8_setLaw_46 : decode cX8_setLaw 46 = .ok (.iaload, 1) := by decide +kernel
theorem dX8_setLaw_47 : decode cX8_setLaw 47 = .ok (.istore_n 3, 1) := by decide +kernel
theorem dX8_setLaw_48 : decode cX8_setLaw 48 = .ok (.aload_n 0, 1) := by decide +kernel
theorem dX8_setLaw_49 : decode cX8_setLaw 49 = .ok (.invokevirtual 63, 3) := by decide +kernel
theorem dX8_setLaw_52 : decode cX8_setLaw 52 = .ok (.aload_n 0, 1) := by decide +kernel
theorem dX8_setLaw_53 : decode cX8_setLaw 53 = .ok (.getfield 9, 3) := by decide +kernel
theorem dX8_setLaw_56 : decode cX8_setLaw 56 = .ok (.iconst 5, 1) := by decide +kernel
theorem dX8_setLaw_57 : decode cX8_setLaw 57 = .ok (.iload_n 1, 1) := by decide +kernel
theorem dX8_setLaw_58 : decode cX8_setLaw 58 = .ok (.iadd, 1) := by decide +kernel
theorem dX8_setLaw_59 : decode cX8_setLaw 59 = .ok (.iload_n 2, 1) := by decide +kernel
theorem dX8_setLaw_60 : decode cX8_setLaw 60 = .ok (.iastore, 1) := by decide +kernel
theorem dX8_setLaw_61 : decode cX8_setLaw 61 = .ok (.iload_n 3, 1) := by decide +kernel
theorem dX8_setLaw_62 : decode cX8_setLaw 62 = .ok (.ireturn, 1) := by decide +kernel
theorem dX8_isLabel_0 : decode cX8_isLabel 0 = .ok (.iload_n 0, 1) := by decide +kernel
theorem dX8_isLabel_1 : decode cX8_isLabel 1 = .ok (.iconst (-1), 1) := by decide +kernel
theorem dX8_isLabel_2 : decode cX8_isLabel 2 = .ok (.bipush 99, 2) := by decide +kernel
theorem dX8_isLabel_4 : decode cX8_isLabel 4 = .ok (.invokestatic 55, 3) := by decide +kernel
theorem dX8_isLabel_7 : decode cX8_isLabel 7 = .ok (.ifCond .eq 34, 3) := by decide +kernel
theorem dX8_isLabel_10 : decode cX8_isLabel 10 = .ok (.iload_n 1, 1) := by decide +kernel
theorem dX8_isLabel_11 : decode cX8_isLabel 11 = .ok (.iconst (-1), 1) := by decide +kernel
theorem dX8_isLabel_12 : decode cX8_isLabel 12 = .ok (.iconst 4, 1) := by decide +kernel
theorem dX8_isLabel_13 : decode cX8_isLabel 13 = .ok (.invokestatic 55, 3) := by decide +kernel
theorem dX8_isLabel_16 : decode cX8_isLabel 16 = .ok (.ifCond .eq 25, 3) := by decide +kernel
theorem dX8_isLabel_19 : decode cX8_isLabel 19 = .ok (.iload_n 2, 1) := by decide +kernel
theorem dX8_isLabel_20 : decode cX8_isLabel 20 = .ok (.iconst (-1), 1) := by decide +kernel
theorem dX8_isLabel_21 : decode cX8_isLabel 21 = .ok (.iconst 4, 1) := by decide +kernel
theorem dX8_isLabel_22 : decode cX8_isLabel 22 = .ok (.invokestatic 55, 3) := by decide +kernel
theorem dX8_isLabel_25 : decode cX8_isLabel 25 = .ok (.ifCond .eq 16, 3) := by decide +kernel
theorem dX8_isLabel_28 : decode cX8_isLabel 28 = .ok (.iload_n 3, 1) := by decide +kernel
theorem dX8_isLabel_29 : decode cX8_isLabel 29 = .ok (.iconst (-1), 1) := by decide +kernel
theorem dX8_isLabel_30 : decode cX8_isLabel 30 = .ok (.iconst 3, 1) := by decide +kernel
theorem dX8_isLabel_31 : decode cX8_isLabel 31 = .ok (.invokestatic 55, 3) := by decide +kernel
theorem dX8_isLabel_34 : decode cX8_isLabel 34 = .ok (.ifCond .eq 7, 3) := by decide +kernel
theorem dX8_isLabel_37 : decode cX8_isLabel 37 = .ok (.iconst 1, 1) := by decide +kernel
theorem dX8_isLabel_38 : decode cX8_isLabel 38 = .ok (.goto 4, 3) := by decide +kernel
theorem dX8_isLabel_41 : decode cX8_isLabel 41 = .ok (.iconst 0, 1) := by decide +kernel
theorem dX8_isLabel_42 : decode cX8_isLabel 42 = .ok (.istore 4, 2) := by decide +kernel
theorem dX8_isLabel_44 : decode cX8_isLabel 44 = .ok (.iload 4, 2) := by decide +kernel
theorem dX8_isLabel_46 : decode cX8_isLabel 46 = .ok (.ifCond .eq 22, 3) := by decide +kernel
theorem dX8_isLabel_49 : decode cX8_isLabel 49 = .ok (.iload_n 2, 1) := by decide +kernel
theorem dX8_isLabel_50 : decode cX8_isLabel 50 = .ok (.iconst (-1), 1) := by decide +kernel
theorem dX8_isLabel_51 : decode cX8_isLabel 51 = .ok (.if_icmp .eq 13, 3) := by decide +kernel
theorem dX8_isLabel_54 : decode cX8_isLabel 54 = .ok (.iload_n 1, 1) := by decide +kernel
theorem dX8_isLabel_55 : decode cX8_isLabel 55 = .ok (.iconst (-1), 1) := by decide +kernel
theorem dX8_isLabel_56 : decode cX8_isLabel 56 = .ok (.if_icmp .eq 12, 3) := by decide +kernel
theorem dX8_isLabel_59 : decode cX8_isLabel 59 = .ok (.iload_n 1, 1) := by decide +kernel
theorem dX8_isLabel_60 : decode cX8_isLabel 60 = .ok (.iload_n 2, 1) := by decide +kernel
theorem dX8_isLabel_61 : decode cX8_isLabel 61 = .ok (.if_icmp .eq 7, 3) := by decide +kernel
theorem dX8_isLabel_64 : decode cX8_isLabel 64 = .ok (.iconst 1, 1) := by decide +kernel
theorem dX8_isLabel_65 : decode cX8_isLabel 65 = .ok (.goto 4, 3) := by decide +kernel
theorem dX8_isLabel_68 : decode cX8_isLabel 68 = .ok (.iconst 0, 1) := by decide +kernel
theorem dX8_isLabel_69 : decode cX8_isLabel 69 = .ok (.ireturn, 1) := by decide +kernel
theorem dX8_areGrapesAllowed_0 : decode cX8_areGrapesAllowed 0 = .ok (.iload_n 2, 1) := by decide +kernel
theorem dX8_areGrapesAllowed_1 : decode cX8_areGrapesAllowed 1 = .ok (.iconst (-1), 1) := by decide +kernel
theorem dX8_areGrapesAllowed_2 : decode cX8_areGrapesAllowed 2 = .ok (.if_icmp .ne 9, 3) := by decide +kernel
theorem dX8_areGrapesAllowed_5 : decode cX8_areGrapesAllowed 5 = .ok (.sipush 1000, 3) := by decide +kernel
theorem dX8_areGrapesAllowed_8 : decode cX8_areGrapesAllowed 8 = .ok (.goto 10, 3) := by decide +kernel
theorem dX8_areGrapesAllowed_11 : decode cX8_areGrapesAllowed 11 = .ok (.aload_n 0, 1) := by decide +kernel
theorem dX8_areGrapesAllowed_12 : decode cX8_areGrapesAllowed 12 = .ok (.iload_n 1, 1) := by decide +kernel
theorem dX8_areGrapesAllowed_13 : decode cX8_areGrapesAllowed 13 = .ok (.iconst 1, 1) := by decide +kernel
theorem dX8_areGrapesAllowed_14 : decode cX8_areGrapesAllowed 14 = .ok (.iload_n 2, 1) := by decide +kernel
theorem dX8_areGrapesAllowed_15 : decode cX8_areGrapesAllowed 15 = .ok (.invokevirtual 150, 3) := by decide +kernel
theorem dX8_areGrapesAllowed_18 : decode cX8_areGrapesAllowed 18 = .ok (.istore 4, 2) := by decide +kernel
theorem dX8_areGrapesAllowed_20 : decode cX8_areGrapesAllowed 20 = .ok (.iload_n 3, 1) := by decide +kernel
theorem dX8_areGrapesAllowed_21 : decode cX8_areGrapesAllowed 21 = .ok (.iconst (-1), 1) := by decide +kernel
theorem dX8_areGrapesAllowed_22 : decode cX8_areGrapesAllowed 22 = .ok (.if_icmp .ne 7, 3) := by decide +kernel
theorem dX8_areGrapesAllowed_25 : decode cX8_areGrapesAllowed 25 = .ok (.iconst 0, 1) := by decide +kernel
theorem dX8_areGrapesAllowed_26 : decode cX8_areGrapesAllowed 26 = .ok (.goto 10, 3) := by decide +kernel
theorem dX8_areGrapesAllowed_29 : decode cX8_areGrapesAllowed 29 = .ok (.aload_n 0, 1) := by decide +kernel
theorem dX8_areGrapesAllowed_30 : decode cX8_areGrapesAllowed 30 = .ok (.iload_n 1, 1) := by decide +kernel
theorem dX8_areGrapesAllowed_31 : decode cX8_areGrapesAllowed 31 = .ok (.iconst 1, 1) := by decide +kernel
theorem dX8_areGrapesAllowed_32 : decode cX8_areGrapesAllowed 32 = .ok (.iload_n 3, 1) := by decide +kernel
theorem dX8_areGrapesAllowed_33 : decode cX8_areGrapesAllowed 33 = .ok (.invokevirtual 150, 3) := by decide +kernel
theorem dX8_areGrapesAllowed_36 : decode cX8_areGrapesAllowed 36 = .ok (.istore 5, 2) := by decide +kernel
theorem dX8_areGrapesAllowed_38 : decode cX8_areGrapesAllowed 38 = .ok (.iload 4, 2) := by decide +kernel
theorem dX8_areGrapesAllowed_40 : decode cX8_areGrapesAllowed 40 = .ok (.iload 5, 2) := by decide +kernel
theorem dX8_areGrapesAllowed_42 : decode cX8_areGrapesAllowed 42 = .ok (.iadd, 1) := by decide +kernel
theorem dX8_areGrapesAllowed_43 : decode cX8_areGrapesAllowed 43 = .ok (.aload_n 0, 1) := by decide +kernel
theorem dX8_areGrapesAllowed_44 : decode cX8_areGrapesAllowed 44 = .ok (.getfield 9, 3) := by decide +kernel
theorem dX8_areGrapesAllowed_47 : decode cX8_areGrapesAllowed 47 = .ok (.bipush 6, 2) := by decide +kernel
theorem dX8_areGrapesAllowed_49 : decode cX8_areGrapesAllowed 49 = .ok (.iaload, 1) := by decide +kernel
theorem dX8_areGrapesAllowed_50 : decode cX8_areGrapesAllowed 50 = .ok (.if_icmp .lt 24, 3) := by decide +kernel
theorem dX8_areGrapesAllowed_53 : decode cX8_areGrapesAllowed 53 = .ok (.iload_n 3, 1) := by decide +kernel
theorem dX8_areGrapesAllowed_54 : decode cX8_areGrapesAllowed 54 = .ok (.iconst (-1), 1) := by decide +kernel
theorem dX8_areGrapesAllowed_55 : decode cX8_areGrapesAllowed 55 = .ok (.if_icmp .eq 15, 3) := by decide +kernel
theorem dX8_areGrapesAllowed_58 : decode cX8_areGrapesAllowed 58 = .ok (.iload 4, 2) := by decide +kernel
theorem dX8_areGrapesAllowed_60 : decode cX8_areGrapesAllowed 60 = .ok (.iload 5, 2) := by decide +kernel
theorem dX8_areGrapesAllowed_62 : decode cX8_areGrapesAllowed 62 = .ok (.if_icmp .lt 12, 3) := by decide +kernel
theorem dX8_areGrapesAllowed_65 : decode cX8_areGrapesAllowed 65 = .ok (.iload 5, 2) := by decide +kernel
theorem dX8_areGrapesAllowed_67 : decode cX8_areGrapesAllowed 67 = .ok (.ifCond .eq 7, 3) := by decide +kernel
theorem dX8_areGrapesAllowed_70 : decode cX8_areGrapesAllowed 70 = .ok (.iconst 1, 1) := by decide +kernel
theorem dX8_areGrapesAllowed_71 : decode cX8_areGrapesAllowed 71 = .ok (.goto 4, 3) := by decide +kernel
theorem dX8_areGrapesAllowed_74 : decode cX8_areGrapesAllowed 74 = .ok (.iconst 0, 1) := by decide +kernel
theorem dX8_areGrapesAllowed_75 : decode cX8_areGrapesAllowed 75 = .ok (.ireturn, 1) := by decide +kernel
theorem dX8_forbidding_0 : decode cX8_forbidding 0 = .ok (.iload_n 2, 1) := by decide +kernel
theorem dX8_forbidding_1 : decode cX8_forbidding 1 = .ok (.iconst (-1), 1) := by decide +kernel
theorem dX8_forbidding_2 : decode cX8_forbidding 2 = .ok (.if_icmp .eq 22, 3) := by decide +kernel
theorem dX8_forbidding_5 : decode cX8_forbidding 5 = .ok (.aload_n 0, 1) := by decide +kernel
theorem dX8_forbidding_6 : decode cX8_forbidding 6 = .ok (.iload_n 1, 1) := by decide +kernel
theorem dX8_forbidding_7 : decode cX8_forbidding 7 = .ok (.iconst 0, 1) := by decide +kernel
theorem dX8_forbidding_8 : decode cX8_forbidding 8 = .ok (.iload_n 2, 1) := by decide +kernel
theorem dX8_forbidding_9 : decode cX8_forbidding 9 = .ok (.invokevirtual 150, 3) := by decide +kernel
theorem dX8_forbidding_12 : decode cX8_forbidding 12 = .ok (.aload_n 0, 1) := by decide +kernel
theorem dX8_forbidding_13 : decode cX8_forbidding 13 = .ok (.getfield 9, 3) := by decide +kernel
theorem dX8_forbidding_16 : decode cX8_forbidding 16 = .ok (.iconst 5, 1) := by decide +kernel
theorem dX8_forbidding_17 : decode cX8_forbidding 17 = .ok (.iaload, 1) := by decide +kernel
theorem dX8_forbidding_18 : decode cX8_forbidding 18 = .ok (.if_icmp .ge 6, 3) := by decide +kernel
theorem dX8_forbidding_21 : decode cX8_forbidding 21 = .ok (.bipush 6, 2) := by decide +kernel
theorem dX8_forbidding_23 : decode cX8_forbidding 23 = .ok (.ireturn, 1) := by decide +kernel
theorem dX8_forbidding_24 : decode cX8_forbidding 24 = .ok (.aload_n 0, 1) := by decide +kernel
theorem dX8_forbidding_25 : decode cX8_forbidding 25 = .ok (.iload_n 1, 1) := by decide +kernel
theorem dX8_forbidding_26 : decode cX8_forbidding 26 = .ok (.iload_n 3, 1) := by decide +kernel
theorem dX8_forbidding_27 : decode cX8_forbidding 27 = .ok (.iload 4, 2) := by decide +kernel
theorem dX8_forbidding_29 : decode cX8_forbidding 29 = .ok (.invokevirtual 155, 3) := by decide +kernel
theorem dX8_forbidding_32 : decode cX8_forbidding 32 = .ok (.ifCond .ne 6, 3) := by decide +kernel
theorem dX8_forbidding_35 : decode cX8_forbidding 35 = .ok (.bipush 7, 2) := by decide +kernel
theorem dX8_forbidding_37 : decode cX8_forbidding 37 = .ok (.ireturn, 1) := by decide +kernel
theorem dX8_forbidding_38 : decode cX8_forbidding 38 = .ok (.iload 5, 2) := by decide +kernel
theorem dX8_forbidding_40 : decode cX8_forbidding 40 = .ok (.iconst (-1), 1) := by decide +kernel
theorem dX8_forbidding_41 : decode cX8_forbidding 41 = .ok (.if_icmp .eq 26, 3) := by decide +kernel
theorem dX8_forbidding_44 : decode cX8_forbidding 44 = .ok (.aload_n 0, 1) := by decide +kernel
theorem dX8_forbidding_45 : decode cX8_forbidding 45 = .ok (.iload_n 1, 1) := by decide +kernel
theorem dX8_forbidding_46 : decode cX8_forbidding 46 = .ok (.iconst 2, 1) := by decide +kernel
theorem dX8_forbidding_47 : decode cX8_forbidding 47 = .ok (.iload 5, 2) := by decide +kernel
theorem dX8_forbidding_49 : decode cX8_forbidding 49 = .ok (.invokevirtual 150, 3) := by decide +kernel
theorem dX8_forbidding_52 : decode cX8_forbidding 52 = .ok (.aload_n 0, 1) := by decide +kernel
theorem dX8_forbidding_53 : decode cX8_forbidding 53 = .ok (.getfield 9, 3) := by decide +kernel
theorem dX8_forbidding_56 : decode cX8_forbidding 56 = .ok (.bipush 7, 2) := by decide +kernel
theorem dX8_forbidding_58 : decode cX8_forbidding 58 = .ok (.iaload, 1) := by decide +kernel
theorem dX8_forbidding_59 : decode cX8_forbidding 59 = .ok (.if_icmp .ge 8, 3) := by decide +kernel
theorem dX8_forbidding_62 : decode cX8_forbidding 62 = .ok (.bipush 8, 2) := by decide +kernel
theorem dX8_forbidding_64 : decode cX8_forbidding 64 = .ok (.goto 4, 3) := by decide +kernel
theorem dX8_forbidding_67 : decode cX8_forbidding 67 = .ok (.iconst 0, 1) := by decide +kernel
theorem dX8_forbidding_68 : decode cX8_forbidding 68 = .ok (.ireturn, 1) := by decide +kernel
theorem dX8_bottle_0 : decode cX8_bottle 0 = .ok (.aload_n 0, 1) := by decide +kernel
theorem dX8_bottle_1 : decode cX8_bottle 1 = .ok (.iconst 0, 1) := by decide +kernel
theorem dX8_bottle_2 : decode cX8_bottle 2 = .ok (.putfield 42, 3) := by decide +kernel
theorem dX8_bottle_5 : decode cX8_bottle 5 = .ok (.aload_n 0, 1) := by decide +kernel
theorem dX8_bottle_6 : decode cX8_bottle 6 = .ok (.iload_n 1, 1) := by decide +kernel
theorem dX8_bottle_7 : decode cX8_bottle 7 = .ok (.invokevirtual 98, 3) := by decide +kernel
theorem dX8_bottle_10 : decode cX8_bottle 10 = .ok (.ifCond .ne 9, 3) := by decide +kernel
theorem dX8_bottle_13 : decode cX8_bottle 13 = .ok (.aload_n 0, 1) := by decide +kernel
theorem dX8_bottle_14 : decode cX8_bottle 14 = .ok (.iconst 1, 1) := by decide +kernel
theorem dX8_bottle_15 : decode cX8_bottle 15 = .ok (.invokevirtual 48, 3) := by decide +kernel
theorem dX8_bottle_18 : decode cX8_bottle 18 = .ok (.ireturn, 1) := by decide +kernel
theorem dX8_bottle_19 : decode cX8_bottle 19 = .ok (.iload_n 2, 1) := by decide +kernel
theorem dX8_bottle_20 : decode cX8_bottle 20 = .ok (.iconst 1, 1) := by decide +kernel
theorem dX8_bottle_21 : decode cX8_bottle 21 = .ok (.sipush 3333, 3) := by decide +kernel
theorem dX8_bottle_24 : decode cX8_bottle 24 = .ok (.invokestatic 55, 3) := by decide +kernel
theorem dX8_bottle_27 : decode cX8_bottle 27 = .ok (.ifCond .eq 16, 3) := by decide +kernel
theorem dX8_bottle_30 : decode cX8_bottle 30 = .ok (.iload_n 3, 1) := by decide +kernel
theorem dX8_bottle_31 : decode cX8_bottle 31 = .ok (.iload 4, 2) := by decide +kernel
theorem dX8_bottle_33 : decode cX8_bottle 33 = .ok (.iload 5, 2) := by decide +kernel
theorem dX8_bottle_35 : decode cX8_bottle 35 = .ok (.iload 6, 2) := by decide +kernel
theorem dX8_bottle_37 : decode cX8_bottle 37 = .ok (.invokestatic 158, 3) := by decide +kernel
theorem dX8_bottle_40 : decode cX8_bottle 40 = .ok (.ifCond .ne 9, 3) := by decide +kernel
theorem dX8_bottle_43 : decode cX8_bottle 43 = .ok (.aload_n 0, 1) := by decide +kernel
theorem dX8_bottle_44 : decode cX8_bottle 44 = .ok (.iconst 2, 1) := by decide +kernel
theorem dX8_bottle_45 : decode cX8_bottle 45 = .ok (.invokevirtual 48, 3) := by decide +kernel
theorem dX8_bottle_48 : decode cX8_bottle 48 = .ok (.ireturn, 1) := by decide +kernel
theorem dX8_bottle_49 : decode cX8_bottle 49 = .ok (.aload_n 0, 1) := by decide +kernel
theorem dX8_bottle_50 : decode cX8_bottle 50 = .ok (.iload_n 1, 1) := by decide +kernel
theorem dX8_bottle_51 : decode cX8_bottle 51 = .ok (.iconst 1, 1) := by decide +kernel
theorem dX8_bottle_52 : decode cX8_bottle 52 = .ok (.invokevirtual 102, 3) := by decide +kernel
theorem dX8_bottle_55 : decode cX8_bottle 55 = .ok (.iconst 3, 1) := by decide +kernel
theorem dX8_bottle_56 : decode cX8_bottle 56 = .ok (.iload_n 2, 1) := by decide +kernel
theorem dX8_bottle_57 : decode cX8_bottle 57 = .ok (.imul, 1) := by decide +kernel
theorem dX8_bottle_58 : decode cX8_bottle 58 = .ok (.if_icmp .ge 7, 3) := by decide +kernel
theorem dX8_bottle_61 : decode cX8_bottle 61 = .ok (.iconst 5, 1) := by decide +kernel
theorem dX8_bottle_62 : decode cX8_bottle 62 = .ok (.goto 15, 3) := by decide +kernel
theorem dX8_bottle_65 : decode cX8_bottle 65 = .ok (.aload_n 0, 1) := by decide +kernel
theorem dX8_bottle_66 : decode cX8_bottle 66 = .ok (.iload_n 1, 1) := by decide +kernel
theorem dX8_bottle_67 : decode cX8_bottle 67 = .ok (.iload_n 3, 1) := by decide +kernel
theorem dX8_bottle_68 : decode cX8_bottle 68 = .ok (.iload 4, 2) := by decide +kernel
theorem dX8_bottle_70 : decode cX8_bottle 70 = .ok (.iload 5, 2) := by decide +kernel
theorem dX8_bottle_72 : decode cX8_bottle 72 = .ok (.iload 6, 2) := by decide +kernel
theorem dX8_bottle_74 : decode cX8_bottle 74 = .ok (.invokevirtual 162, 3) := by decide +kernel
theorem dX8_bottle_77 : decode cX8_bottle 77 = .ok (.istore 7, 2) := by decide +kernel
theorem dX8_bottle_79 : decode cX8_bottle 79 = .ok (.iload 7, 2) := by decide +kernel
theorem dX8_bottle_81 : decode cX8_bottle 81 = .ok (.ifCond .ne 18, 3) := by decide +kernel
theorem dX8_bottle_84 : decode cX8_bottle 84 = .ok (.aload_n 0, 1) := by decide +kernel
theorem dX8_bottle_85 : decode cX8_bottle 85 = .ok (.getfield 9, 3) := by decide +kernel
theorem dX8_bottle_88 : decode cX8_bottle 88 = .ok (.iconst 2, 1) := by decide +kernel
theorem dX8_bottle_89 : decode cX8_bottle 89 = .ok (.iaload, 1) := by decide +kernel
theorem dX8_bottle_90 : decode cX8_bottle 90 = .ok (.bipush 16, 2) := by decide +kernel
theorem dX8_bottle_92 : decode cX8_bottle 92 = .ok (.if_icmp .ne 7, 3) := by decide +kernel
theorem dX8_bottle_95 : decode cX8_bottle 95 = .ok (.bipush 9, 2) := by decide +kernel
theorem dX8_bottle_97 : decode cX8_bottle 97 = .ok (.istore 7, 2) := by decide +kernel
theorem dX8_bottle_99 : decode cX8_bottle 99 = .ok (.iload 7, 2) := by decide +kernel
theorem dX8_bottle_101 : decode cX8_bottle 101 = .ok (.ifCond .eq 11, 3) := by decide +kernel
theorem dX8_bottle_104 : decode cX8_bottle 104 = .ok (.aload_n 0, 1) := by decide +kernel
theorem dX8_bottle_105 : decode cX8_bottle 105 = .ok (.iconst 3, 1) := by decide +kernel
theorem dX8_bottle_106 : decode cX8_bottle 106 = .ok (.iload 7, 2) := by decide +kernel
theorem dX8_bottle_108 : decode cX8_bottle 108 = .ok (.invokevirtual 127, 3) := by decide +kernel
theorem dX8_bottle_111 : decode cX8_bottle 111 = .ok (.ireturn, 1) := by decide +kernel
theorem dX8_bottle_112 : decode cX8_bottle 112 = .ok (.aload_n 0, 1) := by decide +kernel
theorem dX8_bottle_113 : decode cX8_bottle 113 = .ok (.invokevirtual 63, 3) := by decide +kernel
theorem dX8_bottle_116 : decode cX8_bottle 116 = .ok (.aload_n 0, 1) := by decide +kernel
theorem dX8_bottle_117 : decode cX8_bottle 117 = .ok (.getfield 9, 3) := by decide +kernel
theorem dX8_bottle_120 : decode cX8_bottle 120 = .ok (.iconst 2, 1) := by decide +kernel
theorem dX8_bottle_121 : decode cX8_bottle 121 = .ok (.iaload, 1) := by decide +kernel
theorem dX8_bottle_122 : decode cX8_bottle 122 = .ok (.istore 8, 2) := by decide +kernel
theorem dX8_bottle_124 : decode cX8_bottle 124 = .ok (.aload_n 0, 1) := by decide +kernel
theorem dX8_bottle_125 : decode cX8_bottle 125 = .ok (.getfield 9, 3) := by decide +kernel
theorem dX8_bottle_128 : decode cX8_bottle 128 = .ok (.iconst 2, 1) := by decide +kernel
theorem dX8_bottle_129 : decode cX8_bottle 129 = .ok (.dup2, 1) := by decide +kernel
theorem dX8_bottle_130 : decode cX8_bottle 130 = .ok (.iaload, 1) := by decide +kernel
theorem dX8_bottle_131 : decode cX8_bottle 131 = .ok (.iconst 1, 1) := by decide +kernel
theorem dX8_bottle_132 : decode cX8_bottle 132 = .ok (.iadd, 1) := by decide +kernel
theorem dX8_bottle_133 : decode cX8_bottle 133 = .ok (.iastore, 1) := by decide +kernel
theorem dX8_bottle_134 : decode cX8_bottle 134 = .ok (.aload_n 0, 1) := by decide +kernel
theorem dX8_bottle_135 : decode cX8_bottle 135 = .ok (.iload 8, 2) := by decide +kernel
theorem dX8_bottle_137 : decode cX8_bottle 137 = .ok (.iconst 0, 1) := by decide +kernel
theorem dX8_bottle_138 : decode cX8_bottle 138 = .ok (.iload_n 1, 1) := by decide +kernel
theorem dX8_bottle_139 : decode cX8_bottle 139 = .ok (.invokevirtual 166, 3) := by decide +kernel
theorem dX8_bottle_142 : decode cX8_bottle 142 = .ok (.aload_n 0, 1) := by decide +kernel
theorem dX8_bottle_143 : decode cX8_bottle 143 = .ok (.iload 8, 2) := by decide +kernel
theorem dX8_bottle_145 : decode cX8_bottle 145 = .ok (.iconst 1, 1) := by decide +kernel
theorem dX8_bottle_146 : decode cX8_bottle 146 = .ok (.iload_n 2, 1) := by decide +kernel
theorem dX8_bottle_147 : decode cX8_bottle 147 = .ok (.invokevirtual 166, 3) := by decide +kernel
theorem dX8_bottle_150 : decode cX8_bottle 150 = .ok (.aload_n 0, 1) := by decide +kernel
theorem dX8_bottle_151 : decode cX8_bottle 151 = .ok (.iload 8, 2) := by decide +kernel
theorem dX8_bottle_153 : decode cX8_bottle 153 = .ok (.iconst 2, 1) := by decide +kernel
theorem dX8_bottle_154 : decode cX8_bottle 154 = .ok (.iload_n 2, 1) := by decide +kernel
theorem dX8_bottle_155 : decode cX8_bottle 155 = .ok (.invokevirtual 166, 3) := by decide +kernel
theorem dX8_bottle_158 : decode cX8_bottle 158 = .ok (.aload_n 0, 1) := by decide +kernel
theorem dX8_bottle_159 : decode cX8_bottle 159 = .ok (.iload 8, 2) := by decide +kernel
theorem dX8_bottle_161 : decode cX8_bottle 161 = .ok (.iconst 3, 1) := by decide +kernel
theorem dX8_bottle_162 : decode cX8_bottle 162 = .ok (.iload_n 3, 1) := by decide +kernel
theorem dX8_bottle_163 : decode cX8_bottle 163 = .ok (.invokevirtual 166, 3) := by decide +kernel
theorem dX8_bottle_166 : decode cX8_bottle 166 = .ok (.aload_n 0, 1) := by decide +kernel
theorem dX8_bottle_167 : decode cX8_bottle 167 = .ok (.iload 8, 2) := by decide +kernel
theorem dX8_bottle_169 : decode cX8_bottle 169 = .ok (.iconst 4, 1) := by decide +kernel
theorem dX8_bottle_170 : decode cX8_bottle 170 = .ok (.iload 4, 2) := by decide +kernel
theorem dX8_bottle_172 : decode cX8_bottle 172 = .ok (.invokevirtual 166, 3) := by decide +kernel
theorem dX8_bottle_175 : decode cX8_bottle 175 = .ok (.aload_n 0, 1) := by decide +kernel
theorem dX8_bottle_176 : decode cX8_bottle 176 = .ok (.iload 8, 2) := by decide +kernel
theorem dX8_bottle_178 : decode cX8_bottle 178 = .ok (.iconst 5, 1) := by decide +kernel
theorem dX8_bottle_179 : decode cX8_bottle 179 = .ok (.iload 5, 2) := by decide +kernel
theorem dX8_bottle_181 : decode cX8_bottle 181 = .ok (.invokevirtual 166, 3) := by decide +kernel
theorem dX8_bottle_184 : decode cX8_bottle 184 = .ok (.aload_n 0, 1) := by decide +kernel
theorem dX8_bottle_185 : decode cX8_bottle 185 = .ok (.iload 8, 2) := by decide +kernel
theorem dX8_bottle_187 : decode cX8_bottle 187 = .ok (.bipush 6, 2) := by decide +kernel
theorem dX8_bottle_189 : decode cX8_bottle 189 = .ok (.iload 6, 2) := by decide +kernel
theorem dX8_bottle_191 : decode cX8_bottle 191 = .ok (.invokevirtual 166, 3) := by decide +kernel
theorem dX8_bottle_194 : decode cX8_bottle 194 = .ok (.aload_n 0, 1) := by decide +kernel
theorem dX8_bottle_195 : decode cX8_bottle 195 = .ok (.iload_n 1, 1) := by decide +kernel
theorem dX8_bottle_196 : decode cX8_bottle 196 = .ok (.iconst 1, 1) := by decide +kernel
theorem dX8_bottle_197 : decode cX8_bottle 197 = .ok (.aload_n 0, 1) := by decide +kernel
theorem dX8_bottle_198 : decode cX8_bottle 198 = .ok (.iload_n 1, 1) := by decide +kernel
theorem dX8_bottle_199 : decode cX8_bottle 199 = .ok (.iconst 1, 1) := by decide +kernel
theorem dX8_bottle_200 : decode cX8_bottle 200 = .ok (.invokevirtual 102, 3) := by decide +kernel
theorem dX8_bottle_203 : decode cX8_bottle 203 = .ok (.iconst 3, 1) := by decide +kernel
theorem dX8_bottle_204 : decode cX8_bottle 204 = .ok (.iload_n 2, 1) := by decide +kernel
theorem dX8_bottle_205 : decode cX8_bottle 205 = .ok (.imul, 1) := by decide +kernel
theorem dX8_bottle_206 : decode cX8_bottle 206 = .ok (.isub, 1) := by decide +kernel
theorem dX8_bottle_207 : decode cX8_bottle 207 = .ok (.invokevirtual 59, 3) := by decide +kernel
theorem dX8_bottle_210 : decode cX8_bottle 210 = .ok (.iload 8, 2) := by decide +kernel
theorem dX8_bottle_212 : decode cX8_bottle 212 = .ok (.ireturn, 1) := by decide +kernel
theorem dX8_forbids_0 : decode cX8_forbids 0 = .ok (.aload_n 0, 1) := by decide +kernel
theorem dX8_forbids_1 : decode cX8_forbids 1 = .ok (.iconst 0, 1) := by decide +kernel
theorem dX8_forbids_2 : decode cX8_forbids 2 = .ok (.putfield 42, 3) := by decide +kernel
theorem dX8_forbids_5 : decode cX8_forbids 5 = .ok (.aload_n 0, 1) := by decide +kernel
theorem dX8_forbids_6 : decode cX8_forbids 6 = .ok (.iload_n 1, 1) := by decide +kernel
theorem dX8_forbids_7 : decode cX8_forbids 7 = .ok (.invokevirtual 98, 3) := by decide +kernel
theorem dX8_forbids_10 : decode cX8_forbids 10 = .ok (.ifCond .ne 9, 3) := by decide +kernel
theorem dX8_forbids_13 : decode cX8_forbids 13 = .ok (.aload_n 0, 1) := by decide +kernel
theorem dX8_forbids_14 : decode cX8_forbids 14 = .ok (.iconst 1, 1) := by decide +kernel
theorem dX8_forbids_15 : decode cX8_forbids 15 = .ok (.invokevirtual 48, 3) := by decide +kernel
theorem dX8_forbids_18 : decode cX8_forbids 18 = .ok (.ireturn, 1) := by decide +kernel
theorem dX8_forbids_19 : decode cX8_forbids 19 = .ok (.iload_n 2, 1) := by decide +kernel
theorem dX8_forbids_20 : decode cX8_forbids 20 = .ok (.iload_n 3, 1) := by decide +kernel
theorem dX8_forbids_21 : decode cX8_forbids 21 = .ok (.iload 4, 2) := by decide +kernel
theorem dX8_forbids_23 : decode cX8_forbids 23 = .ok (.iload 5, 2) := by decide +kernel
theorem dX8_forbids_25 : decode cX8_forbids 25 = .ok (.invokestatic 158, 3) := by decide +kernel
theorem dX8_forbids_28 : decode cX8_forbids 28 = .ok (.ifCond .eq 17, 3) := by decide +kernel
theorem dX8_forbids_31 : decode cX8_forbids 31 = .ok (.aload_n 0, 1) := by decide +kernel
theorem dX8_forbids_32 : decode cX8_forbids 32 = .ok (.iload_n 1, 1) := by decide +kernel
theorem dX8_forbids_33 : decode cX8_forbids 33 = .ok (.iload_n 2, 1) := by decide +kernel
theorem dX8_forbids_34 : decode cX8_forbids 34 = .ok (.iload_n 3, 1) := by decide +kernel
theorem dX8_forbids_35 : decode cX8_forbids 35 = .ok (.iload 4, 2) := by decide +kernel
theorem dX8_forbids_37 : decode cX8_forbids 37 = .ok (.iload 5, 2) := by decide +kernel
theorem dX8_forbids_39 : decode cX8_forbids 39 = .ok (.invokevirtual 162, 3) := by decide +kernel
theorem dX8_forbids_42 : decode cX8_forbids 42 = .ok (.goto 8, 3) := by decide +kernel
theorem dX8_forbids_45 : decode cX8_forbids 45 = .ok (.aload_n 0, 1) := by decide +kernel
theorem dX8_forbids_46 : decode cX8_forbids 46 = .ok (.iconst 2, 1) := by decide +kernel
theorem dX8_forbids_47 : decode cX8_forbids 47 = .ok (.invokevirtual 48, 3) := by decide +kernel
theorem dX8_forbids_50 : decode cX8_forbids 50 = .ok (.ireturn, 1) := by decide +kernel
theorem dX8_b_0 : decode cX8_b 0 = .ok (.aload_n 0, 1) := by decide +kernel
theorem dX8_b_1 : decode cX8_b 1 = .ok (.getfield 9, 3) := by decide +kernel
theorem dX8_b_4 : decode cX8_b 4 = .ok (.sipush 656, 3) := by decide +kernel
theorem dX8_b_7 : decode cX8_b 7 = .ok (.bipush 7, 2) := by decide +kernel
theorem dX8_b_9 : decode cX8_b 9 = .ok (.iload_n 1, 1) := by decide +kernel
theorem dX8_b_10 : decode cX8_b 10 = .ok (.imul, 1) := by decide +kernel
theorem dX8_b_11 : decode cX8_b 11 = .ok (.iadd, 1) := by decide +kernel
theorem dX8_b_12 : decode cX8_b 12 = .ok (.iload_n 2, 1) := by decide +kernel
theorem dX8_b_13 : decode cX8_b 13 = .ok (.iadd, 1) := by decide +kernel
theorem dX8_b_14 : decode cX8_b 14 = .ok (.iaload, 1) := by decide +kernel
theorem dX8_b_15 : decode cX8_b 15 = .ok (.ireturn, 1) := by decide +kernel
theorem dX8_setB_0 : decode cX8_setB 0 = .ok (.aload_n 0, 1) := by decide +kernel
theorem dX8_setB_1 : decode cX8_setB 1 = .ok (.getfield 9, 3) := by decide +kernel
theorem dX8_setB_4 : decode cX8_setB 4 = .ok (.sipush 656, 3) := by decide +kernel
theorem dX8_setB_7 : decode cX8_setB 7 = .ok (.bipush 7, 2) := by decide +kernel
theorem dX8_setB_9 : decode cX8_setB 9 = .ok (.iload_n 1, 1) := by decide +kernel
theorem dX8_setB_10 : decode cX8_setB 10 = .ok (.imul, 1) := by decide +kernel
theorem dX8_setB_11 : decode cX8_setB 11 = .ok (.iadd, 1) := by decide +kernel
theorem dX8_setB_12 : decode cX8_setB 12 = .ok (.iload_n 2, 1) := by decide +kernel
theorem dX8_setB_13 : decode cX8_setB 13 = .ok (.iadd, 1) := by decide +kernel
theorem dX8_setB_14 : decode cX8_setB 14 = .ok (.iload_n 3, 1) := by decide +kernel
theorem dX8_setB_15 : decode cX8_setB 15 = .ok (.iastore, 1) := by decide +kernel
theorem dX8_setB_16 : decode cX8_setB 16 = .ok (.return_, 1) := by decide +kernel
theorem dX8_isBottling_0 : decode cX8_isBottling 0 = .ok (.iload_n 1, 1) := by decide +kernel
theorem dX8_isBottling_1 : decode cX8_isBottling 1 = .ok (.iconst 0, 1) := by decide +kernel
theorem dX8_isBottling_2 : decode cX8_isBottling 2 = .ok (.aload_n 0, 1) := by decide +kernel
theorem dX8_isBottling_3 : decode cX8_isBottling 3 = .ok (.getfield 9, 3) := by decide +kernel
theorem dX8_isBottling_6 : decode cX8_isBottling 6 = .ok (.iconst 2, 1) := by decide +kernel
theorem dX8_isBottling_7 : decode cX8_isBottling 7 = .ok (.iaload, 1) := by decide +kernel
theorem dX8_isBottling_8 : decode cX8_isBottling 8 = .ok (.iconst 1, 1) := by decide +kernel
theorem dX8_isBottling_9 : decode cX8_isBottling 9 = .ok (.isub, 1) := by decide +kernel
theorem dX8_isBottling_10 : decode cX8_isBottling 10 = .ok (.invokestatic 55, 3) := by decide +kernel
theorem dX8_isBottling_13 : decode cX8_isBottling 13 = .ok (.ireturn, 1) := by decide +kernel
theorem dX8_isAllowedNow_0 : decode cX8_isAllowedNow 0 = .ok (.aload_n 0, 1) := by decide +kernel
theorem dX8_isAllowedNow_1 : decode cX8_isAllowedNow 1 = .ok (.aload_n 0, 1) := by decide +kernel
theorem dX8_isAllowedNow_2 : decode cX8_isAllowedNow 2 = .ok (.iload_n 1, 1) := by decide +kernel
theorem dX8_isAllowedNow_3 : decode cX8_isAllowedNow 3 = .ok (.iconst 0, 1) := by decide +kernel
theorem dX8_isAllowedNow_4 : decode cX8_isAllowedNow 4 = .ok (.invokevirtual 169, 3) := by decide +kernel
theorem dX8_isAllowedNow_7 : decode cX8_isAllowedNow 7 = .ok (.aload_n 0, 1) := by decide +kernel
theorem dX8_isAllowedNow_8 : decode cX8_isAllowedNow 8 = .ok (.iload_n 1, 1) := by decide +kernel
theorem dX8_isAllowedNow_9 : decode cX8_isAllowedNow 9 = .ok (.iconst 3, 1) := by decide +kernel
theorem dX8_isAllowedNow_10 : decode cX8_isAllowedNow 10 = .ok (.invokevirtual 169, 3) := by decide +kernel
theorem dX8_isAllowedNow_13 : decode cX8_isAllowedNow 13 = .ok (.aload_n 0, 1) := by decide +kernel
theorem dX8_isAllowedNow_14 : decode cX8_isAllowedNow 14 = .ok (.iload_n 1, 1) := by decide +kernel
theorem dX8_isAllowedNow_15 : decode cX8_isAllowedNow 15 = .ok (.iconst 4, 1) := by decide +kernel
theorem dX8_isAllowedNow_16 : decode cX8_isAllowedNow 16 = .ok (.invokevirtual 169, 3) := by decide +kernel
theorem dX8_isAllowedNow_19 : decode cX8_isAllowedNow 19 = .ok (.aload_n 0, 1) := by decide +kernel
theorem dX8_isAllowedNow_20 : decode cX8_isAllowedNow 20 = .ok (.iload_n 1, 1) := by decide +kernel
theorem dX8_isAllowedNow_21 : decode cX8_isAllowedNow 21 = .ok (.iconst 5, 1) := by decide +kernel
theorem dX8_isAllowedNow_22 : decode cX8_isAllowedNow 22 = .ok (.invokevirtual 169, 3) := by decide +kernel
theorem dX8_isAllowedNow_25 : decode cX8_isAllowedNow 25 = .ok (.aload_n 0, 1) := by decide +kernel
theorem dX8_isAllowedNow_26 : decode cX8_isAllowedNow 26 = .ok (.iload_n 1, 1) := by decide +kernel
theorem dX8_isAllowedNow_27 : decode cX8_isAllowedNow 27 = .ok (.bipush 6, 2) := by decide +kernel
theorem dX8_isAllowedNow_29 : decode cX8_isAllowedNow 29 = .ok (.invokevirtual 169, 3) := by decide +kernel
theorem dX8_isAllowedNow_32 : decode cX8_isAllowedNow 32 = .ok (.invokevirtual 162, 3) := by decide +kernel
theorem dX8_isAllowedNow_35 : decode cX8_isAllowedNow 35 = .ok (.ifCond .ne 7, 3) := by decide +kernel
theorem dX8_isAllowedNow_38 : decode cX8_isAllowedNow 38 = .ok (.iconst 1, 1) := by decide +kernel
theorem dX8_isAllowedNow_39 : decode cX8_isAllowedNow 39 = .ok (.goto 4, 3) := by decide +kernel
theorem dX8_isAllowedNow_42 : decode cX8_isAllowedNow 42 = .ok (.iconst 0, 1) := by decide +kernel
theorem dX8_isAllowedNow_43 : decode cX8_isAllowedNow 43 = .ok (.ireturn, 1) := by decide +kernel
theorem dX8_bottling_0 : decode cX8_bottling 0 = .ok (.aload_n 0, 1) := by decide +kernel
theorem dX8_bottling_1 : decode cX8_bottling 1 = .ok (.iconst 0, 1) := by decide +kernel
theorem dX8_bottling_2 : decode cX8_bottling 2 = .ok (.putfield 42, 3) := by decide +kernel
theorem dX8_bottling_5 : decode cX8_bottling 5 = .ok (.aload_n 0, 1) := by decide +kernel
theorem dX8_bottling_6 : decode cX8_bottling 6 = .ok (.iload_n 1, 1) := by decide +kernel
theorem dX8_bottling_7 : decode cX8_bottling 7 = .ok (.invokevirtual 172, 3) := by decide +kernel
theorem dX8_bottling_10 : decode cX8_bottling 10 = .ok (.ifCond .ne 9, 3) := by decide +kernel
theorem dX8_bottling_13 : decode cX8_bottling 13 = .ok (.aload_n 0, 1) := by decide +kernel
theorem dX8_bottling_14 : decode cX8_bottling 14 = .ok (.iconst 1, 1) := by decide +kernel
theorem dX8_bottling_15 : decode cX8_bottling 15 = .ok (.invokevirtual 48, 3) := by decide +kernel
theorem dX8_bottling_18 : decode cX8_bottling 18 = .ok (.ireturn, 1) := by decide +kernel
theorem dX8_bottling_19 : decode cX8_bottling 19 = .ok (.iload_n 2, 1) := by decide +kernel
theorem dX8_bottling_20 : decode cX8_bottling 20 = .ok (.iconst 0, 1) := by decide +kernel
theorem dX8_bottling_21 : decode cX8_bottling 21 = .ok (.bipush 6, 2) := by decide +kernel
theorem dX8_bottling_23 : decode cX8_bottling 23 = .ok (.invokestatic 55, 3) := by decide +kernel
theorem dX8_bottling_26 : decode cX8_bottling 26 = .ok (.ifCond .eq 10, 3) := by decide +kernel
theorem dX8_bottling_29 : decode cX8_bottling 29 = .ok (.aload_n 0, 1) := by decide +kernel
theorem dX8_bottling_30 : decode cX8_bottling 30 = .ok (.iload_n 1, 1) := by decide +kernel
theorem dX8_bottling_31 : decode cX8_bottling 31 = .ok (.iload_n 2, 1) := by decide +kernel
theorem dX8_bottling_32 : decode cX8_bottling 32 = .ok (.invokevirtual 169, 3) := by decide +kernel
theorem dX8_bottling_35 : decode cX8_bottling 35 = .ok (.ireturn, 1) := by decide +kernel
theorem dX8_bottling_36 : decode cX8_bottling 36 = .ok (.iload_n 2, 1) := by decide +kernel
theorem dX8_bottling_37 : decode cX8_bottling 37 = .ok (.bipush 7, 2) := by decide +kernel
theorem dX8_bottling_39 : decode cX8_bottling 39 = .ok (.if_icmp .ne 11, 3) := by decide +kernel
theorem dX8_bottling_42 : decode cX8_bottling 42 = .ok (.aload_n 0, 1) := by decide +kernel
theorem dX8_bottling_43 : decode cX8_bottling 43 = .ok (.iload_n 1, 1) := by decide +kernel
theorem dX8_bottling_44 : decode cX8_bottling 44 = .ok (.invokevirtual 175, 3) := by decide +kernel
theorem dX8_bottling_47 : decode cX8_bottling 47 = .ok (.goto 30, 3) := by decide +kernel
theorem dX8_bottling_50 : decode cX8_bottling 50 = .ok (.iload_n 2, 1) := by decide +kernel
theorem dX8_bottling_51 : decode cX8_bottling 51 = .ok (.bipush 8, 2) := by decide +kernel
theorem dX8_bottling_53 : decode cX8_bottling 53 = .ok (.if_icmp .ne 19, 3) := by decide +kernel
theorem dX8_bottling_56 : decode cX8_bottling 56 = .ok (.aload_n 0, 1) := by decide +kernel
theorem dX8_bottling_57 : decode cX8_bottling 57 = .ok (.iload_n 1, 1) := by decide +kernel
theorem dX8_bottling_58 : decode cX8_bottling 58 = .ok (.invokevirtual 178, 3) := by decide +kernel
theorem dX8_bottling_61 : decode cX8_bottling 61 = .ok (.ifCond .eq 7, 3) := by decide +kernel
theorem dX8_bottling_64 : decode cX8_bottling 64 = .ok (.iconst 1, 1) := by decide +kernel
theorem dX8_bottling_65 : decode cX8_bottling 65 = .ok (.goto 12, 3) := by decide +kernel
theorem dX8_bottling_68 : decode cX8_bottling 68 = .ok (.iconst 0, 1) := by decide +kernel
theorem dX8_bottling_69 : decode cX8_bottling 69 = .ok (.goto 8, 3) := by decide +kernel
theorem dX8_bottling_72 : decode cX8_bottling 72 = .ok (.aload_n 0, 1) := by decide +kernel
theorem dX8_bottling_73 : decode cX8_bottling 73 = .ok (.iconst 2, 1) := by decide +kernel
theorem dX8_bottling_74 : decode cX8_bottling 74 = .ok (.invokevirtual 48, 3) := by decide +kernel
theorem dX8_bottling_77 : decode cX8_bottling 77 = .ok (.ireturn, 1) := by decide +kernel
theorem dX8_reason_0 : decode cX8_reason 0 = .ok (.aload_n 0, 1) := by decide +kernel
theorem dX8_reason_1 : decode cX8_reason 1 = .ok (.aload_n 0, 1) := by decide +kernel
theorem dX8_reason_2 : decode cX8_reason 2 = .ok (.getfield 45, 3) := by decide +kernel
theorem dX8_reason_5 : decode cX8_reason 5 = .ok (.ifCond .ne 7, 3) := by decide +kernel
theorem dX8_reason_8 : decode cX8_reason 8 = .ok (.iconst 1, 1) := by decide +kernel
theorem dX8_reason_9 : decode cX8_reason 9 = .ok (.goto 4, 3) := by decide +kernel
theorem dX8_reason_12 : decode cX8_reason 12 = .ok (.iconst 0, 1) := by decide +kernel
theorem dX8_reason_13 : decode cX8_reason 13 = .ok (.putfield 42, 3) := by decide +kernel
theorem dX8_reason_16 : decode cX8_reason 16 = .ok (.aload_n 0, 1) := by decide +kernel
theorem dX8_reason_17 : decode cX8_reason 17 = .ok (.getfield 45, 3) := by decide +kernel
theorem dX8_reason_20 : decode cX8_reason 20 = .ok (.ireturn, 1) := by decide +kernel
theorem dX8_isCustomer_0 : decode cX8_isCustomer 0 = .ok (.iload_n 1, 1) := by decide +kernel
theorem dX8_isCustomer_1 : decode cX8_isCustomer 1 = .ok (.iconst 0, 1) := by decide +kernel
theorem dX8_isCustomer_2 : decode cX8_isCustomer 2 = .ok (.aload_n 0, 1) := by decide +kernel
theorem dX8_isCustomer_3 : decode cX8_isCustomer 3 = .ok (.getfield 9, 3) := by decide +kernel
theorem dX8_isCustomer_6 : decode cX8_isCustomer 6 = .ok (.iconst 3, 1) := by decide +kernel
theorem dX8_isCustomer_7 : decode cX8_isCustomer 7 = .ok (.iaload, 1) := by decide +kernel
theorem dX8_isCustomer_8 : decode cX8_isCustomer 8 = .ok (.iconst 1, 1) := by decide +kernel
theorem dX8_isCustomer_9 : decode cX8_isCustomer 9 = .ok (.isub, 1) := by decide +kernel
theorem dX8_isCustomer_10 : decode cX8_isCustomer 10 = .ok (.invokestatic 55, 3) := by decide +kernel
theorem dX8_isCustomer_13 : decode cX8_isCustomer 13 = .ok (.ireturn, 1) := by decide +kernel
theorem dX8_held_0 : decode cX8_held 0 = .ok (.aload_n 0, 1) := by decide +kernel
theorem dX8_held_1 : decode cX8_held 1 = .ok (.getfield 9, 3) := by decide +kernel
theorem dX8_held_4 : decode cX8_held 4 = .ok (.sipush 776, 3) := by decide +kernel
theorem dX8_held_7 : decode cX8_held 7 = .ok (.bipush 16, 2) := by decide +kernel
theorem dX8_held_9 : decode cX8_held 9 = .ok (.iload_n 1, 1) := by decide +kernel
theorem dX8_held_10 : decode cX8_held 10 = .ok (.imul, 1) := by decide +kernel
theorem dX8_held_11 : decode cX8_held 11 = .ok (.iadd, 1) := by decide +kernel
theorem dX8_held_12 : decode cX8_held 12 = .ok (.iload_n 2, 1) := by decide +kernel
theorem dX8_held_13 : decode cX8_held 13 = .ok (.iadd, 1) := by decide +kernel
theorem dX8_held_14 : decode cX8_held 14 = .ok (.iaload, 1) := by decide +kernel
theorem dX8_held_15 : decode cX8_held 15 = .ok (.ireturn, 1) := by decide +kernel
theorem dX8_wished_0 : decode cX8_wished 0 = .ok (.aload_n 0, 1) := by decide +kernel
theorem dX8_wished_1 : decode cX8_wished 1 = .ok (.getfield 9, 3) := by decide +kernel
theorem dX8_wished_4 : decode cX8_wished 4 = .ok (.sipush 904, 3) := by decide +kernel
theorem dX8_wished_7 : decode cX8_wished 7 = .ok (.bipush 16, 2) := by decide +kernel
theorem dX8_wished_9 : decode cX8_wished 9 = .ok (.iload_n 1, 1) := by decide +kernel
theorem dX8_wished_10 : decode cX8_wished 10 = .ok (.imul, 1) := by decide +kernel
theorem dX8_wished_11 : decode cX8_wished 11 = .ok (.iadd, 1) := by decide +kernel
theorem dX8_wished_12 : decode cX8_wished 12 = .ok (.iload_n 2, 1) := by decide +kernel
theorem dX8_wished_13 : decode cX8_wished 13 = .ok (.iadd, 1) := by decide +kernel
theorem dX8_wished_14 : decode cX8_wished 14 = .ok (.iaload, 1) := by decide +kernel
theorem dX8_wished_15 : decode cX8_wished 15 = .ok (.ireturn, 1) := by decide +kernel
theorem dX8_isListed_0 : decode cX8_isListed 0 = .ok (.aload_n 0, 1) := by decide +kernel
theorem dX8_isListed_1 : decode cX8_isListed 1 = .ok (.iload_n 1, 1) := by decide +kernel
theorem dX8_isListed_2 : decode cX8_isListed 2 = .ok (.iload_n 2, 1) := by decide +kernel
theorem dX8_isListed_3 : decode cX8_isListed 3 = .ok (.invokevirtual 181, 3) := by decide +kernel
theorem dX8_isListed_6 : decode cX8_isListed 6 = .ok (.aload_n 0, 1) := by decide +kernel
theorem dX8_isListed_7 : decode cX8_isListed 7 = .ok (.iload_n 1, 1) := by decide +kernel
theorem dX8_isListed_8 : decode cX8_isListed 8 = .ok (.iload_n 2, 1) := by decide +kernel
theorem dX8_isListed_9 : decode cX8_isListed 9 = .ok (.invokevirtual 184, 3) := by decide +kernel
theorem dX8_isListed_12 : decode cX8_isListed 12 = .ok (.if_icmp .ge 7, 3) := by decide +kernel
theorem dX8_isListed_15 : decode cX8_isListed 15 = .ok (.iconst 1, 1) := by decide +kernel
theorem dX8_isListed_16 : decode cX8_isListed 16 = .ok (.goto 4, 3) := by decide +kernel
theorem dX8_isListed_19 : decode cX8_isListed 19 = .ok (.iconst 0, 1) := by decide +kernel
theorem dX8_isListed_20 : decode cX8_isListed 20 = .ok (.ireturn, 1) := by decide +kernel
theorem dX8_listMany_0 : decode cX8_listMany 0 = .ok (.iconst 0, 1) := by decide +kernel
theorem dX8_listMany_1 : decode cX8_listMany 1 = .ok (.istore_n 2, 1) := by decide +kernel
theorem dX8_listMany_2 : decode cX8_listMany 2 = .ok (.iconst 0, 1) := by decide +kernel
theorem dX8_listMany_3 : decode cX8_listMany 3 = .ok (.istore_n 3, 1) := by decide +kernel
theorem dX8_listMany_4 : decode cX8_listMany 4 = .ok (.iload_n 3, 1) := by decide +kernel
theorem dX8_listMany_5 : decode cX8_listMany 5 = .ok (.aload_n 0, 1) := by decide +kernel
theorem dX8_listMany_6 : decode cX8_listMany 6 = .ok (.getfield 9, 3) := by decide +kernel
theorem dX8_listMany_9 : decode cX8_listMany 9 = .ok (.iconst 3, 1) := by decide +kernel
theorem dX8_listMany_10 : decode cX8_listMany 10 = .ok (.iaload, 1) := by decide +kernel
theorem dX8_listMany_11 : decode cX8_listMany 11 = .ok (.if_icmp .ge 26, 3) := by decide +kernel
theorem dX8_listMany_14 : decode cX8_listMany 14 = .ok (.iload_n 2, 1) := by decide +kernel
theorem dX8_listMany_15 : decode cX8_listMany 15 = .ok (.aload_n 0, 1) := by decide +kernel
theorem dX8_listMany_16 : decode cX8_listMany 16 = .ok (.iload_n 3, 1) := by decide +kernel
theorem dX8_listMany_17 : decode cX8_listMany 17 = .ok (.iload_n 1, 1) := by decide +kernel
theorem dX8_listMany_18 : decode cX8_listMany 18 = .ok (.invokevirtual 187, 3) := by decide +kernel
theorem dX8_listMany_21 : decode cX8_listMany 21 = .ok (.ifCond .eq 7, 3) := by decide +kernel
theorem dX8_listMany_24 : decode cX8_listMany 24 = .ok (.iconst 1, 1) := by decide +kernel
theorem dX8_listMany_25 : decode cX8_listMany 25 = .ok (.goto 4, 3) := by decide +kernel
theorem dX8_listMany_28 : decode cX8_listMany 28 = .ok (.iconst 0, 1) := by decide +kernel
theorem dX8_listMany_29 : decode cX8_listMany 29 = .ok (.iadd, 1) := by decide +kernel
theorem dX8_listMany_30 : decode cX8_listMany 30 = .ok (.istore_n 2, 1) := by decide +kernel
theorem dX8_listMany_31 : decode cX8_listMany 31 = .ok (.iinc 3 1, 3) := by decide +kernel
theorem dX8_listMany_34 : decode cX8_listMany 34 = .ok (.goto (-30), 3) := by decide +kernel
theorem dX8_listMany_37 : decode cX8_listMany 37 = .ok (.iload_n 2, 1) := by decide +kernel
theorem dX8_listMany_38 : decode cX8_listMany 38 = .ok (.ireturn, 1) := by decide +kernel
theorem dX8_isAhead_0 : decode cX8_isAhead 0 = .ok (.aload_n 0, 1) := by decide +kernel
theorem dX8_isAhead_1 : decode cX8_isAhead 1 = .ok (.getfield 9, 3) := by decide +kernel
theorem dX8_isAhead_4 : decode cX8_isAhead 4 = .ok (.sipush 768, 3) := by decide +kernel
theorem dX8_isAhead_7 : decode cX8_isAhead 7 = .ok (.iload_n 1, 1) := by decide +kernel
theorem dX8_isAhead_8 : decode cX8_isAhead 8 = .ok (.iadd, 1) := by decide +kernel
theorem dX8_isAhead_9 : decode cX8_isAhead 9 = .ok (.iaload, 1) := by decide +kernel
theorem dX8_isAhead_10 : decode cX8_isAhead 10 = .ok (.aload_n 0, 1) := by decide +kernel
theorem dX8_isAhead_11 : decode cX8_isAhead 11 = .ok (.getfield 9, 3) := by decide +kernel
theorem dX8_isAhead_14 : decode cX8_isAhead 14 = .ok (.sipush 768, 3) := by decide +kernel
theorem dX8_isAhead_17 : decode cX8_isAhead 17 = .ok (.iload_n 2, 1) := by decide +kernel
theorem dX8_isAhead_18 : decode cX8_isAhead 18 = .ok (.iadd, 1) := by decide +kernel
theorem dX8_isAhead_19 : decode cX8_isAhead 19 = .ok (.iaload, 1) := by decide +kernel
theorem dX8_isAhead_20 : decode cX8_isAhead 20 = .ok (.isub, 1) := by decide +kernel
theorem dX8_isAhead_21 : decode cX8_isAhead 21 = .ok (.istore_n 3, 1) := by decide +kernel
theorem dX8_isAhead_22 : decode cX8_isAhead 22 = .ok (.iload_n 3, 1) := by decide +kernel
theorem dX8_isAhead_23 : decode cX8_isAhead 23 = .ok (.ifCond .eq 15, 3) := by decide +kernel
theorem dX8_isAhead_26 : decode cX8_isAhead 26 = .ok (.iload_n 3, 1) := by decide +kernel
theorem dX8_isAhead_27 : decode cX8_isAhead 27 = .ok (.ifCond .ge 7, 3) := by decide +kernel
theorem dX8_isAhead_30 : decode cX8_isAhead 30 = .ok (.iconst 1, 1) := by decide +kernel
theorem dX8_isAhead_31 : decode cX8_isAhead 31 = .ok (.goto 17, 3) := by decide +kernel
theorem dX8_isAhead_34 : decode cX8_isAhead 34 = .ok (.iconst 0, 1) := by decide +kernel
theorem dX8_isAhead_35 : decode cX8_isAhead 35 = .ok (.goto 13, 3) := by decide +kernel
theorem dX8_isAhead_38 : decode cX8_isAhead 38 = .ok (.iload_n 1, 1) := by decide +kernel
theorem dX8_isAhead_39 : decode cX8_isAhead 39 = .ok (.iload_n 2, 1) := by decide +kernel
theorem dX8_isAhead_40 : decode cX8_isAhead 40 = .ok (.if_icmp .ge 7, 3) := by decide +kernel
theorem dX8_isAhead_43 : decode cX8_isAhead 43 = .ok (.iconst 1, 1) := by decide +kernel
theorem dX8_isAhead_44 : decode cX8_isAhead 44 = .ok (.goto 4, 3) := by decide +kernel
theorem dX8_isAhead_47 : decode cX8_isAhead 47 = .ok (.iconst 0, 1) := by decide +kernel
theorem dX8_isAhead_48 : decode cX8_isAhead 48 = .ok (.ireturn, 1) := by decide +kernel
theorem dX8_placeOf_0 : decode cX8_placeOf 0 = .ok (.iconst 0, 1) := by decide +kernel
theorem dX8_placeOf_1 : decode cX8_placeOf 1 = .ok (.istore_n 3, 1) := by decide +kernel
theorem dX8_placeOf_2 : decode cX8_placeOf 2 = .ok (.iconst 0, 1) := by decide +kernel
theorem dX8_placeOf_3 : decode cX8_placeOf 3 = .ok (.istore 4, 2) := by decide +kernel
theorem dX8_placeOf_5 : decode cX8_placeOf 5 = .ok (.iload 4, 2) := by decide +kernel
theorem dX8_placeOf_7 : decode cX8_placeOf 7 = .ok (.aload_n 0, 1) := by decide +kernel
theorem dX8_placeOf_8 : decode cX8_placeOf 8 = .ok (.getfield 9, 3) := by decide +kernel
theorem dX8_placeOf_11 : decode cX8_placeOf 11 = .ok (.iconst 3, 1) := by decide +kernel
theorem dX8_placeOf_12 : decode cX8_placeOf 12 = .ok (.iaload, 1) := by decide +kernel
theorem dX8_placeOf_13 : decode cX8_placeOf 13 = .ok (.if_icmp .ge 37, 3) := by decide +kernel
theorem dX8_placeOf_16 : decode cX8_placeOf 16 = .ok (.iload_n 3, 1) := by decide +kernel
theorem dX8_placeOf_17 : decode cX8_placeOf 17 = .ok (.aload_n 0, 1) := by decide +kernel
theorem dX8_placeOf_18 : decode cX8_placeOf 18 = .ok (.iload 4, 2) := by decide +kernel
theorem dX8_placeOf_20 : decode cX8_placeOf 20 = .ok (.iload_n 2, 1) := by decide +kernel
theorem dX8_placeOf_21 : decode cX8_placeOf 21 = .ok (.invokevirtual 187, 3) := by decide +kernel
theorem dX8_placeOf_24 : decode cX8_placeOf 24 = .ok (.ifCond .eq 17, 3) := by decide +kernel
theorem dX8_placeOf_27 : decode cX8_placeOf 27 = .ok (.aload_n 0, 1) := by decide +kernel
theorem dX8_placeOf_28 : decode cX8_placeOf 28 = .ok (.iload 4, 2) := by decide +kernel
theorem dX8_placeOf_30 : decode cX8_placeOf 30 = .ok (.iload_n 1, 1) := by decide +kernel
theorem dX8_placeOf_31 : decode cX8_placeOf 31 = .ok (.invokevirtual 190, 3) := by decide +kernel
theorem dX8_placeOf_34 : decode cX8_placeOf 34 = .ok (.ifCond .eq 7, 3) := by decide +kernel
theorem dX8_placeOf_37 : decode cX8_placeOf 37 = .ok (.iconst 1, 1) := by decide +kernel
theorem dX8_placeOf_38 : decode cX8_placeOf 38 = .ok (.goto 4, 3) := by decide +kernel
theorem dX8_placeOf_41 : decode cX8_placeOf 41 = .ok (.iconst 0, 1) := by decide +kernel
theorem dX8_placeOf_42 : decode cX8_placeOf 42 = .ok (.iadd, 1) := by decide +kernel
theorem dX8_placeOf_43 : decode cX8_placeOf 43 = .ok (.istore_n 3, 1) := by decide +kernel
theorem dX8_placeOf_44 : decode cX8_placeOf 44 = .ok (.iinc 4 1, 3) := by decide +kernel
theorem dX8_placeOf_47 : decode cX8_placeOf 47 = .ok (.goto (-42), 3) := by decide +kernel
theorem dX8_placeOf_50 : decode cX8_placeOf 50 = .ok (.aload_n 0, 1) := by decide +kernel
theorem dX8_placeOf_51 : decode cX8_placeOf 51 = .ok (.iload_n 1, 1) := by decide +kernel
theorem dX8_placeOf_52 : decode cX8_placeOf 52 = .ok (.iload_n 2, 1) := by decide +kernel
theorem dX8_placeOf_53 : decode cX8_placeOf 53 = .ok (.invokevirtual 187, 3) := by decide +kernel
theorem dX8_placeOf_56 : decode cX8_placeOf 56 = .ok (.ifCond .eq 7, 3) := by decide +kernel
theorem dX8_placeOf_59 : decode cX8_placeOf 59 = .ok (.iload_n 3, 1) := by decide +kernel
theorem dX8_placeOf_60 : decode cX8_placeOf 60 = .ok (.goto 4, 3) := by decide +kernel
theorem dX8_placeOf_63 : decode cX8_placeOf 63 = .ok (.iconst (-1), 1) := by decide +kernel
theorem dX8_placeOf_64 : decode cX8_placeOf 64 = .ok (.ireturn, 1) := by decide +kernel
theorem dX8_customerAt_0 : decode cX8_customerAt 0 = .ok (.iconst 0, 1) := by decide +kernel
theorem dX8_customerAt_1 : decode cX8_customerAt 1 = .ok (.istore_n 3, 1) := by decide +kernel
theorem dX8_customerAt_2 : decode cX8_customerAt 2 = .ok (.iload_n 3, 1) := by decide +kernel
theorem dX8_customerAt_3 : decode cX8_customerAt 3 = .ok (.aload_n 0, 1) := by decide +kernel
theorem dX8_customerAt_4 : decode cX8_customerAt 4 = .ok (.getfield 9, 3) := by decide +kernel
theorem dX8_customerAt_7 : decode cX8_customerAt 7 = .ok (.iconst 3, 1) := by decide +kernel
theorem dX8_customerAt_8 : decode cX8_customerAt 8 = .ok (.iaload, 1) := by decide +kernel
theorem dX8_customerAt_9 : decode cX8_customerAt 9 = .ok (.if_icmp .ge 25, 3) := by decide +kernel
theorem dX8_customerAt_12 : decode cX8_customerAt 12 = .ok (.iload_n 2, 1) := by decide +kernel
theorem dX8_customerAt_13 : decode cX8_customerAt 13 = .ok (.ifCond .lt 21, 3) := by decide +kernel
theorem dX8_customerAt_16 : decode cX8_customerAt 16 = .ok (.aload_n 0, 1) := by decide +kernel
theorem dX8_customerAt_17 : decode cX8_customerAt 17 = .ok (.iload_n 3, 1) := by decide +kernel
theorem dX8_customerAt_18 : decode cX8_customerAt 18 = .ok (.iload_n 1, 1) := by decide +kernel
theorem dX8_customerAt_19 : decode cX8_customerAt 19 = .ok (.invokevirtual 193, 3) := by decide +kernel
theorem dX8_customerAt_22 : decode cX8_customerAt 22 = .ok (.iload_n 2, 1) := by decide +kernel
theorem dX8_customerAt_23 : decode cX8_customerAt 23 = .ok (.if_icmp .ne 5, 3) := by decide +kernel
theorem dX8_customerAt_26 : decode cX8_customerAt 26 = .ok (.iload_n 3, 1) := by decide +kernel
theorem dX8_customerAt_27 : decode cX8_customerAt 27 = .ok (.ireturn, 1) := by decide +kernel
theorem dX8_customerAt_28 : decode cX8_customerAt 28 = .ok (.iinc 3 1, 3) := by decide +kernel
theorem dX8_customerAt_31 : decode cX8_customerAt 31 = .ok (.goto (-29), 3) := by decide +kernel
theorem dX8_customerAt_34 : decode cX8_customerAt 34 = .ok (.iconst (-1), 1) := by decide +kernel
theorem dX8_customerAt_35 : decode cX8_customerAt 35 = .ok (.ireturn, 1) := by decide +kernel
theorem dX8_addCustomer_0 : decode cX8_addCustomer 0 = .ok (.aload_n 0, 1) := by decide +kernel
theorem dX8_addCustomer_1 : decode cX8_addCustomer 1 = .ok (.iload_n 1, 1) := by decide +kernel
theorem dX8_addCustomer_2 : decode cX8_addCustomer 2 = .ok (.iconst 0, 1) := by decide +kernel
theorem dX8_addCustomer_3 : decode cX8_addCustomer 3 = .ok (.iconst 2, 1) := by decide +kernel
theorem dX8_addCustomer_4 : decode cX8_addCustomer 4 = .ok (.invokestatic 55, 3) := by decide +kernel
theorem dX8_addCustomer_7 : decode cX8_addCustomer 7 = .ok (.ifCond .ne 7, 3) := by decide +kernel
theorem dX8_addCustomer_10 : decode cX8_addCustomer 10 = .ok (.iconst 1, 1) := by decide +kernel
theorem dX8_addCustomer_11 : decode cX8_addCustomer 11 = .ok (.goto 19, 3) := by decide +kernel
theorem dX8_addCustomer_14 : decode cX8_addCustomer 14 = .ok (.aload_n 0, 1) := by decide +kernel
theorem dX8_addCustomer_15 : decode cX8_addCustomer 15 = .ok (.getfield 9, 3) := by decide +kernel
theorem dX8_addCustomer_18 : decode cX8_addCustomer 18 = .ok (.iconst 3, 1) := by decide +kernel
theorem dX8_addCustomer_19 : decode cX8_addCustomer 19 = .ok (.iaload, 1) := by decide +kernel
theorem dX8_addCustomer_20 : decode cX8_addCustomer 20 = .ok (.bipush 8, 2) := by decide +kernel
theorem dX8_addCustomer_22 : decode cX8_addCustomer 22 = .ok (.if_icmp .ne 7, 3) := by decide +kernel
theorem dX8_addCustomer_25 : decode cX8_addCustomer 25 = .ok (.iconst 2, 1) := by decide +kernel
theorem dX8_addCustomer_26 : decode cX8_addCustomer 26 = .ok (.goto 4, 3) := by decide +kernel
theorem dX8_addCustomer_29 : decode cX8_addCustomer 29 = .ok (.iconst 0, 1) := by decide +kernel
theorem dX8_addCustomer_30 : decode cX8_addCustomer 30 = .ok (.putfield 42, 3) := by decide +kernel
theorem dX8_addCustomer_33 : decode cX8_addCustomer 33 = .ok (.aload_n 0, 1) := by decide +kernel
theorem dX8_addCustomer_34 : decode cX8_addCustomer 34 = .ok (.getfield 42, 3) := by decide +kernel
theorem dX8_addCustomer_37 : decode cX8_addCustomer 37 = .ok (.ifCond .eq 5, 3) := by decide +kernel
theorem dX8_addCustomer_40 : decode cX8_addCustomer 40 = .ok (.iconst 0, 1) := by decide +kernel
theorem dX8_addCustomer_41 : decode cX8_addCustomer 41 = .ok (.ireturn, 1) := by decide +kernel
theorem dX8_addCustomer_42 : decode cX8_addCustomer 42 = .ok (.aload_n 0, 1) := by decide +kernel
theorem dX8_addCustomer_43 : decode cX8_addCustomer 43 = .ok (.invokevirtual 63, 3) := by decide +kernel
theorem dX8_addCustomer_46 : decode cX8_addCustomer 46 = .ok (.aload_n 0, 1) := by decide +kernel
theorem dX8_addCustomer_47 : decode cX8_addCustomer 47 = .ok (.getfield 9, 3) := by decide +kernel
theorem dX8_addCustomer_50 : decode cX8_addCustomer 50 = .ok (.iconst 3, 1) := by decide +kernel
theorem dX8_addCustomer_51 : decode cX8_addCustomer 51 = .ok (.iaload, 1) := by decide +kernel
theorem dX8_addCustomer_52 : decode cX8_addCustomer 52 = .ok (.istore_n 2, 1) := by decide +kernel
theorem dX8_addCustomer_53 : decode cX8_addCustomer 53 = .ok (.aload_n 0, 1) := by decide +kernel
theorem dX8_addCustomer_54 : decode cX8_addCustomer 54 = .ok (.getfield 9, 3) := by decide +kernel
theorem dX8_addCustomer_57 : decode cX8_addCustomer 57 = .ok (.sipush 768, 3) := by decide +kernel
theorem dX8_addCustomer_60 : decode cX8_addCustomer 60 = .ok (.iload_n 2, 1) := by decide +kernel
theorem dX8_addCustomer_61 : decode cX8_addCustomer 61 = .ok (.iadd, 1) := by decide +kernel
theorem dX8_addCustomer_62 : decode cX8_addCustomer 62 = .ok (.iload_n 1, 1) := by decide +kernel
theorem dX8_addCustomer_63 : decode cX8_addCustomer 63 = .ok (.iastore, 1) := by decide +kernel
theorem dX8_addCustomer_64 : decode cX8_addCustomer 64 = .ok (.aload_n 0, 1) := by decide +kernel
theorem dX8_addCustomer_65 : decode cX8_addCustomer 65 = .ok (.getfield 9, 3) := by decide +kernel
theorem dX8_addCustomer_68 : decode cX8_addCustomer 68 = .ok (.iconst 3, 1) := by decide +kernel
theorem dX8_addCustomer_69 : decode cX8_addCustomer 69 = .ok (.dup2, 1) := by decide +kernel
theorem dX8_addCustomer_70 : decode cX8_addCustomer 70 = .ok (.iaload, 1) := by decide +kernel
theorem dX8_addCustomer_71 : decode cX8_addCustomer 71 = .ok (.iconst 1, 1) := by decide +kernel
theorem dX8_addCustomer_72 : decode cX8_addCustomer 72 = .ok (.iadd, 1) := by decide +kernel
theorem dX8_addCustomer_73 : decode cX8_addCustomer 73 = .ok (.iastore, 1) := by decide +kernel
theorem dX8_addCustomer_74 : decode cX8_addCustomer 74 = .ok (.iload_n 2, 1) := by decide +kernel
theorem dX8_addCustomer_75 : decode cX8_addCustomer 75 = .ok (.ireturn, 1) := by decide +kernel
theorem dX8_wish_0 : decode cX8_wish 0 = .ok (.aload_n 0, 1) := by decide +kernel
theorem dX8_wish_1 : decode cX8_wish 1 = .ok (.iconst 0, 1) := by decide +kernel
theorem dX8_wish_2 : decode cX8_wish 2 = .ok (.putfield 42, 3) := by decide +kernel
theorem dX8_wish_5 : decode cX8_wish 5 = .ok (.aload_n 0, 1) := by decide +kernel
theorem dX8_wish_6 : decode cX8_wish 6 = .ok (.iload_n 1, 1) := by decide +kernel
theorem dX8_wish_7 : decode cX8_wish 7 = .ok (.invokevirtual 196, 3) := by decide +kernel
theorem dX8_wish_10 : decode cX8_wish 10 = .ok (.ifCond .eq 11, 3) := by decide +kernel
theorem dX8_wish_13 : decode cX8_wish 13 = .ok (.aload_n 0, 1) := by decide +kernel
theorem dX8_wish_14 : decode cX8_wish 14 = .ok (.iload_n 2, 1) := by decide +kernel
theorem dX8_wish_15 : decode cX8_wish 15 = .ok (.invokevirtual 172, 3) := by decide +kernel
theorem dX8_wish_18 : decode cX8_wish 18 = .ok (.ifCond .ne 9, 3) := by decide +kernel
theorem dX8_wish_21 : decode cX8_wish 21 = .ok (.aload_n 0, 1) := by decide +kernel
theorem dX8_wish_22 : decode cX8_wish 22 = .ok (.iconst 1, 1) := by decide +kernel
theorem dX8_wish_23 : decode cX8_wish 23 = .ok (.invokevirtual 48, 3) := by decide +kernel
theorem dX8_wish_26 : decode cX8_wish 26 = .ok (.ireturn, 1) := by decide +kernel
theorem dX8_wish_27 : decode cX8_wish 27 = .ok (.iload_n 3, 1) := by decide +kernel
theorem dX8_wish_28 : decode cX8_wish 28 = .ok (.iconst 0, 1) := by decide +kernel
theorem dX8_wish_29 : decode cX8_wish 29 = .ok (.sipush 3333, 3) := by decide +kernel
theorem dX8_wish_32 : decode cX8_wish 32 = .ok (.invokestatic 55, 3) := by decide +kernel
theorem dX8_wish_35 : decode cX8_wish 35 = .ok (.ifCond .ne 9, 3) := by decide +kernel
theorem dX8_wish_38 : decode cX8_wish 38 = .ok (.aload_n 0, 1) := by decide +kernel
theorem dX8_wish_39 : decode cX8_wish 39 = .ok (.iconst 2, 1) := by decide +kernel
theorem dX8_wish_40 : decode cX8_wish 40 = .ok (.invokevirtual 48, 3) := by decide +kernel
theorem dX8_wish_43 : decode cX8_wish 43 = .ok (.ireturn, 1) := by decide +kernel
theorem dX8_wish_44 : decode cX8_wish 44 = .ok (.aload_n 0, 1) := by decide +kernel
theorem dX8_wish_45 : decode cX8_wish 45 = .ok (.iload_n 1, 1) := by decide +kernel
theorem dX8_wish_46 : decode cX8_wish 46 = .ok (.iload_n 2, 1) := by decide +kernel
theorem dX8_wish_47 : decode cX8_wish 47 = .ok (.invokevirtual 184, 3) := by decide +kernel
theorem dX8_wish_50 : decode cX8_wish 50 = .ok (.istore 4, 2) := by decide +kernel
theorem dX8_wish_52 : decode cX8_wish 52 = .ok (.aload_n 0, 1) := by decide +kernel
theorem dX8_wish_53 : decode cX8_wish 53 = .ok (.invokevirtual 63, 3) := by decide +kernel
theorem dX8_wish_56 : decode cX8_wish 56 = .ok (.aload_n 0, 1) := by decide +kernel
theorem dX8_wish_57 : decode cX8_wish 57 = .ok (.getfield 9, 3) := by decide +kernel
theorem dX8_wish_60 : decode cX8_wish 60 = .ok (.sipush 904, 3) := by decide +kernel
theorem dX8_wish_63 : decode cX8_wish 63 = .ok (.bipush 16, 2) := by decide +kernel
theorem dX8_wish_65 : decode cX8_wish 65 = .ok (.iload_n 1, 1) := by decide +kernel
theorem dX8_wish_66 : decode cX8_wish 66 = .ok (.imul, 1) := by decide +kernel
theorem dX8_wish_67 : decode cX8_wish 67 = .ok (.iadd, 1) := by decide +kernel
theorem dX8_wish_68 : decode cX8_wish 68 = .ok (.iload_n 2, 1) := by decide +kernel
theorem dX8_wish_69 : decode cX8_wish 69 = .ok (.iadd, 1) := by decide +kernel
theorem dX8_wish_70 : decode cX8_wish 70 = .ok (.iload_n 3, 1) := by decide +kernel
theorem dX8_wish_71 : decode cX8_wish 71 = .ok (.iastore, 1) := by decide +kernel
theorem dX8_wish_72 : decode cX8_wish 72 = .ok (.iload 4, 2) := by decide +kernel
theorem dX8_wish_74 : decode cX8_wish 74 = .ok (.ireturn, 1) := by decide +kernel
theorem dX8_lesser_0 : decode cX8_lesser 0 = .ok (.iload_n 0, 1) := by decide +kernel
theorem dX8_lesser_1 : decode cX8_lesser 1 = .ok (.iload_n 1, 1) := by decide +kernel
theorem dX8_lesser_2 : decode cX8_lesser 2 = .ok (.if_icmp .ge 7, 3) := by decide +kernel
theorem dX8_lesser_5 : decode cX8_lesser 5 = .ok (.iload_n 0, 1) := by decide +kernel
theorem dX8_lesser_6 : decode cX8_lesser 6 = .ok (.goto 4, 3) := by decide +kernel
theorem dX8_lesser_9 : decode cX8_lesser 9 = .ok (.iload_n 1, 1) := by decide +kernel
theorem dX8_lesser_10 : decode cX8_lesser 10 = .ok (.ireturn, 1) := by decide +kernel
theorem dX8_portionOf_0 : decode cX8_portionOf 0 = .ok (.aload_n 0, 1) := by decide +kernel
theorem dX8_portionOf_1 : decode cX8_portionOf 1 = .ok (.getfield 9, 3) := by decide +kernel
theorem dX8_portionOf_4 : decode cX8_portionOf 4 = .ok (.sipush 768, 3) := by decide +kernel
theorem dX8_portionOf_7 : decode cX8_portionOf 7 = .ok (.iload_n 1, 1) := by decide +kernel
theorem dX8_portionOf_8 : decode cX8_portionOf 8 = .ok (.iadd, 1) := by decide +kernel
theorem dX8_portionOf_9 : decode cX8_portionOf 9 = .ok (.iaload, 1) := by decide +kernel
theorem dX8_portionOf_10 : decode cX8_portionOf 10 = .ok (.ifCond .ne 8, 3) := by decide +kernel
theorem dX8_portionOf_13 : decode cX8_portionOf 13 = .ok (.bipush 12, 2) := by decide +kernel
theorem dX8_portionOf_15 : decode cX8_portionOf 15 = .ok (.goto 23, 3) := by decide +kernel
theorem dX8_portionOf_18 : decode cX8_portionOf 18 = .ok (.aload_n 0, 1) := by decide +kernel
theorem dX8_portionOf_19 : decode cX8_portionOf 19 = .ok (.getfield 9, 3) := by decide +kernel
theorem dX8_portionOf_22 : decode cX8_portionOf 22 = .ok (.sipush 768, 3) := by decide +kernel
theorem dX8_portionOf_25 : decode cX8_portionOf 25 = .ok (.iload_n 1, 1) := by decide +kernel
theorem dX8_portionOf_26 : decode cX8_portionOf 26 = .ok (.iadd, 1) := by decide +kernel
theorem dX8_portionOf_27 : decode cX8_portionOf 27 = .ok (.iaload, 1) := by decide +kernel
theorem dX8_portionOf_28 : decode cX8_portionOf 28 = .ok (.iconst 1, 1) := by decide +kernel
theorem dX8_portionOf_29 : decode cX8_portionOf 29 = .ok (.if_icmp .ne 8, 3) := by decide +kernel
theorem dX8_portionOf_32 : decode cX8_portionOf 32 = .ok (.bipush 6, 2) := by decide +kernel
theorem dX8_portionOf_34 : decode cX8_portionOf 34 = .ok (.goto 4, 3) := by decide +kernel
theorem dX8_portionOf_37 : decode cX8_portionOf 37 = .ok (.iconst 3, 1) := by decide +kernel
theorem dX8_portionOf_38 : decode cX8_portionOf 38 = .ok (.ireturn, 1) := by decide +kernel
theorem dX8_round_0 : decode cX8_round 0 = .ok (.aload_n 0, 1) := by decide +kernel
theorem dX8_round_1 : decode cX8_round 1 = .ok (.iload_n 1, 1) := by decide +kernel
theorem dX8_round_2 : decode cX8_round 2 = .ok (.invokevirtual 175, 3) := by decide +kernel
theorem dX8_round_5 : decode cX8_round 5 = .ok (.istore_n 2, 1) := by decide +kernel
theorem dX8_round_6 : decode cX8_round 6 = .ok (.iconst 0, 1) := by decide +kernel
theorem dX8_round_7 : decode cX8_round 7 = .ok (.istore_n 3, 1) := by decide +kernel
theorem dX8_round_8 : decode cX8_round 8 = .ok (.iload_n 3, 1) := by decide +kernel
theorem dX8_round_9 : decode cX8_round 9 = .ok (.iload_n 2, 1) := by decide +kernel
theorem dX8_round_10 : decode cX8_round 10 = .ok (.if_icmp .ge 21, 3) := by decide +kernel
theorem dX8_round_13 : decode cX8_round 13 = .ok (.aload_n 0, 1) := by decide +kernel
theorem dX8_round_14 : decode cX8_round 14 = .ok (.getfield 36, 3) := by decide +kernel
theorem dX8_round_17 : decode cX8_round 17 = .ok (.iload_n 3, 1) := by decide +kernel
theorem dX8_round_18 : decode cX8_round 18 = .ok (.aload_n 0, 1) := by decide +kernel
theorem dX8_round_19 : decode cX8_round 19 = .ok (.iload_n 1, 1) := by decide +kernel
theorem dX8_round_20 : decode cX8_round 20 = .ok (.iload_n 3, 1) := by decide +kernel
theorem dX8_round_21 : decode cX8_round 21 = .ok (.invokevirtual 199, 3) := by decide +kernel
theorem dX8_round_24 : decode cX8_round 24 = .ok (.iastore, 1) := by decide +kernel
theorem dX8_round_25 : decode cX8_round 25 = .ok (.iinc 3 1, 3) := by decide +kernel
theorem dX8_round_28 : decode cX8_round 28 = .ok (.goto (-20), 3) := by decide +kernel
theorem dX8_round_31 : decode cX8_round 31 = .ok (.iconst 0, 1) := by decide +kernel
theorem dX8_round_32 : decode cX8_round 32 = .ok (.istore_n 3, 1) := by decide +kernel
theorem dX8_round_33 : decode cX8_round 33 = .ok (.iconst 0, 1) := by decide +kernel
theorem dX8_round_34 : decode cX8_round 34 = .ok (.istore 4, 2) := by decide +kernel
theorem dX8_round_36 : decode cX8_round 36 = .ok (.iload 4, 2) := by decide +kernel
theorem dX8_round_38 : decode cX8_round 38 = .ok (.iload_n 2, 1) := by decide +kernel
theorem dX8_round_39 : decode cX8_round 39 = .ok (.if_icmp .ge 98, 3) := by decide +kernel
theorem dX8_round_42 : decode cX8_round 42 = .ok (.aload_n 0, 1) := by decide +kernel
theorem dX8_round_43 : decode cX8_round 43 = .ok (.getfield 36, 3) := by decide +kernel
theorem dX8_round_46 : decode cX8_round 46 = .ok (.iload 4, 2) := by decide +kernel
theorem dX8_round_48 : decode cX8_round 48 = .ok (.iaload, 1) := by decide +kernel
theorem dX8_round_49 : decode cX8_round 49 = .ok (.istore 5, 2) := by decide +kernel
theorem dX8_round_51 : decode cX8_round 51 = .ok (.aload_n 0, 1) := by decide +kernel
theorem dX8_round_52 : decode cX8_round 52 = .ok (.iload 5, 2) := by decide +kernel
theorem dX8_round_54 : decode cX8_round 54 = .ok (.iload_n 1, 1) := by decide +kernel
theorem dX8_round_55 : decode cX8_round 55 = .ok (.invokevirtual 184, 3) := by decide +kernel
theorem dX8_round_58 : decode cX8_round 58 = .ok (.aload_n 0, 1) := by decide +kernel
theorem dX8_round_59 : decode cX8_round 59 = .ok (.iload 5, 2) := by decide +kernel
theorem dX8_round_61 : decode cX8_round 61 = .ok (.iload_n 1, 1) := by decide +kernel
theorem dX8_round_62 : decode cX8_round 62 = .ok (.invokevirtual 181, 3) := by decide +kernel
theorem dX8_round_65 : decode cX8_round 65 = .ok (.isub, 1) := by decide +kernel
theorem dX8_round_66 : decode cX8_round 66 = .ok (.istore 6, 2) := by decide +kernel
theorem dX8_round_68 : decode cX8_round 68 = .ok (.aload_n 0, 1) := by decide +kernel
theorem dX8_round_69 : decode cX8_round 69 = .ok (.iload 5, 2) := by decide +kernel
theorem dX8_round_71 : decode cX8_round 71 = .ok (.invokevirtual 202, 3) := by decide +kernel
theorem dX8_round_74 : decode cX8_round 74 = .ok (.iload 6, 2) := by decide +kernel
theorem dX8_round_76 : decode cX8_round 76 = .ok (.aload_n 0, 1) := by decide +kernel
theorem dX8_round_77 : decode cX8_round 77 = .ok (.iload_n 1, 1) := by decide +kernel
theorem dX8_round_78 : decode cX8_round 78 = .ok (.iconst 2, 1) := by decide +kernel
theorem dX8_round_79 : decode cX8_round 79 = .ok (.invokevirtual 169, 3) := by decide +kernel
theorem dX8_round_82 : decode cX8_round 82 = .ok (.invokestatic 205, 3) := by decide +kernel
theorem dX8_round_85 : decode cX8_round 85 = .ok (.invokestatic 205, 3) := by decide +kernel
theorem dX8_round_88 : decode cX8_round 88 = .ok (.istore 7, 2) := by decide +kernel
theorem dX8_round_90 : decode cX8_round 90 = .ok (.aload_n 0, 1) := by decide +kernel
theorem dX8_round_91 : decode cX8_round 91 = .ok (.getfield 9, 3) := by decide +kernel
theorem dX8_round_94 : decode cX8_round 94 = .ok (.sipush 776, 3) := by decide +kernel
theorem dX8_round_97 : decode cX8_round 97 = .ok (.bipush 16, 2) := by decide +kernel
theorem dX8_round_99 : decode cX8_round 99 = .ok (.iload 5, 2) := by decide +kernel
theorem dX8_round_101 : decode cX8_round 101 = .ok (.imul, 1) := by decide +kernel
theorem dX8_round_102 : decode cX8_round 102 = .ok (.iadd, 1) := by decide +kernel
theorem dX8_round_103 : decode cX8_round 103 = .ok (.iload_n 1, 1) := by decide +kernel
theorem dX8_round_104 : decode cX8_round 104 = .ok (.iadd, 1) := by decide +kernel
theorem dX8_round_105 : decode cX8_round 105 = .ok (.dup2, 1) := by decide +kernel
theorem dX8_round_106 : decode cX8_round 106 = .ok (.iaload, 1) := by decide +kernel
theorem dX8_round_107 : decode cX8_round 107 = .ok (.iload 7, 2) := by decide +kernel
theorem dX8_round_109 : decode cX8_round 109 = .ok (.iadd, 1) := by decide +kernel
theorem dX8_round_110 : decode cX8_round 110 = .ok (.iastore, 1) := by decide +kernel
theorem dX8_round_111 : decode cX8_round 111 = .ok (.aload_n 0, 1) := by decide +kernel
theorem dX8_round_112 : decode cX8_round 112 = .ok (.iload_n 1, 1) := by decide +kernel
theorem dX8_round_113 : decode cX8_round 113 = .ok (.iconst 2, 1) := by decide +kernel
theorem dX8_round_114 : decode cX8_round 114 = .ok (.aload_n 0, 1) := by decide +kernel
theorem dX8_round_115 : decode cX8_round 115 = .ok (.iload_n 1, 1) := by decide +kernel
theorem dX8_round_116 : decode cX8_round 116 = .ok (.iconst 2, 1) := by decide +kernel
theorem dX8_round_117 : decode cX8_round 117 = .ok (.invokevirtual 169, 3) := by decide +kernel
theorem dX8_round_120 : decode cX8_round 120 = .ok (.iload 7, 2) := by decide +kernel
theorem dX8_round_122 : decode cX8_round 122 = .ok (.isub, 1) := by decide +kernel
theorem dX8_round_123 : decode cX8_round 123 = .ok (.invokevirtual 166, 3) := by decide +kernel
theorem dX8_round_126 : decode cX8_round 126 = .ok (.iload_n 3, 1) := by decide +kernel
theorem dX8_round_127 : decode cX8_round 127 = .ok (.iload 7, 2) := by decide +kernel
theorem dX8_round_129 : decode cX8_round 129 = .ok (.iadd, 1) := by decide +kernel
theorem dX8_round_130 : decode cX8_round 130 = .ok (.istore_n 3, 1) := by decide +kernel
theorem dX8_round_131 : decode cX8_round 131 = .ok (.iinc 4 1, 3) := by decide +kernel
theorem dX8_round_134 : decode cX8_round 134 = .ok (.goto (-98), 3) := by decide +kernel
theorem dX8_round_137 : decode cX8_round 137 = .ok (.iload_n 3, 1) := by decide +kernel
theorem dX8_round_138 : decode cX8_round 138 = .ok (.ireturn, 1) := by decide +kernel
theorem dX8_serve_0 : decode cX8_serve 0 = .ok (.aload_n 0, 1) := by decide +kernel
theorem dX8_serve_1 : decode cX8_serve 1 = .ok (.aload_n 0, 1) := by decide +kernel
theorem dX8_serve_2 : decode cX8_serve 2 = .ok (.iload_n 1, 1) := by decide +kernel
theorem dX8_serve_3 : decode cX8_serve 3 = .ok (.invokevirtual 172, 3) := by decide +kernel
theorem dX8_serve_6 : decode cX8_serve 6 = .ok (.ifCond .eq 7, 3) := by decide +kernel
theorem dX8_serve_9 : decode cX8_serve 9 = .ok (.iconst 0, 1) := by decide +kernel
theorem dX8_serve_10 : decode cX8_serve 10 = .ok (.goto 4, 3) := by decide +kernel
theorem dX8_serve_13 : decode cX8_serve 13 = .ok (.iconst 1, 1) := by decide +kernel
theorem dX8_serve_14 : decode cX8_serve 14 = .ok (.putfield 42, 3) := by decide +kernel
theorem dX8_serve_17 : decode cX8_serve 17 = .ok (.aload_n 0, 1) := by decide +kernel
theorem dX8_serve_18 : decode cX8_serve 18 = .ok (.getfield 42, 3) := by decide +kernel
theorem dX8_serve_21 : decode cX8_serve 21 = .ok (.ifCond .eq 5, 3) := by decide +kernel
theorem dX8_serve_24 : decode cX8_serve 24 = .ok (.iconst 0, 1) := by decide +kernel
theorem dX8_serve_25 : decode cX8_serve 25 = .ok (.ireturn, 1) := by decide +kernel
theorem dX8_serve_26 : decode cX8_serve 26 = .ok (.aload_n 0, 1) := by decide +kernel
theorem dX8_serve_27 : decode cX8_serve 27 = .ok (.invokevirtual 63, 3) := by decide +kernel
theorem dX8_serve_30 : decode cX8_serve 30 = .ok (.iconst 0, 1) := by decide +kernel
theorem dX8_serve_31 : decode cX8_serve 31 = .ok (.istore_n 2, 1) := by decide +kernel
theorem dX8_serve_32 : decode cX8_serve 32 = .ok (.aload_n 0, 1) := by decide +kernel
theorem dX8_serve_33 : decode cX8_serve 33 = .ok (.iload_n 1, 1) := by decide +kernel
theorem dX8_serve_34 : decode cX8_serve 34 = .ok (.iconst 2, 1) := by decide +kernel
theorem dX8_serve_35 : decode cX8_serve 35 = .ok (.invokevirtual 169, 3) := by decide +kernel
theorem dX8_serve_38 : decode cX8_serve 38 = .ok (.ifCond .le 22, 3) := by decide +kernel
theorem dX8_serve_41 : decode cX8_serve 41 = .ok (.aload_n 0, 1) := by decide +kernel
theorem dX8_serve_42 : decode cX8_serve 42 = .ok (.iload_n 1, 1) := by decide +kernel
theorem dX8_serve_43 : decode cX8_serve 43 = .ok (.invokevirtual 175, 3) := by decide +kernel
theorem dX8_serve_46 : decode cX8_serve 46 = .ok (.ifCond .le 14, 3) := by decide +kernel
theorem dX8_serve_49 : decode cX8_serve 49 = .ok (.iload_n 2, 1) := by decide +kernel
theorem dX8_serve_50 : decode cX8_serve 50 = .ok (.aload_n 0, 1) := by decide +kernel
theorem dX8_serve_51 : decode cX8_serve 51 = .ok (.iload_n 1, 1) := by decide +kernel
theorem dX8_serve_52 : decode cX8_serve 52 = .ok (.invokevirtual 208, 3) := by decide +kernel
theorem dX8_serve_55 : decode cX8_serve 55 = .ok (.iadd, 1) := by decide +kernel
theorem dX8_serve_56 : decode cX8_serve 56 = .ok (.istore_n 2, 1) := by decide +kernel
theorem dX8_serve_57 : decode cX8_serve 57 = .ok (.goto (-25), 3) := by decide +kernel
theorem dX8_serve_60 : decode cX8_serve 60 = .ok (.iload_n 2, 1) := by decide +kernel
theorem dX8_serve_61 : decode cX8_serve 61 = .ok (.ireturn, 1) := by decide +kernel
theorem dX8_giveBack_0 : decode cX8_giveBack 0 = .ok (.aload_n 0, 1) := by decide +kernel
theorem dX8_giveBack_1 : decode cX8_giveBack 1 = .ok (.iconst 0, 1) := by decide +kernel
theorem dX8_giveBack_2 : decode cX8_giveBack 2 = .ok (.putfield 42, 3) := by decide +kernel
theorem dX8_giveBack_5 : decode cX8_giveBack 5 = .ok (.aload_n 0, 1) := by decide +kernel
theorem dX8_giveBack_6 : decode cX8_giveBack 6 = .ok (.iload_n 1, 1) := by decide +kernel
theorem dX8_giveBack_7 : decode cX8_giveBack 7 = .ok (.invokevirtual 196, 3) := by decide +kernel
theorem dX8_giveBack_10 : decode cX8_giveBack 10 = .ok (.ifCond .eq 11, 3) := by decide +kernel
theorem dX8_giveBack_13 : decode cX8_giveBack 13 = .ok (.aload_n 0, 1) := by decide +kernel
theorem dX8_giveBack_14 : decode cX8_giveBack 14 = .ok (.iload_n 2, 1) := by decide +kernel
theorem dX8_giveBack_15 : decode cX8_giveBack 15 = .ok (.invokevirtual 172, 3) := by decide +kernel
theorem dX8_giveBack_18 : decode cX8_giveBack 18 = .ok (.ifCond .ne 9, 3) := by decide +kernel
theorem dX8_giveBack_21 : decode cX8_giveBack 21 = .ok (.aload_n 0, 1) := by decide +kernel
theorem dX8_giveBack_22 : decode cX8_giveBack 22 = .ok (.iconst 1, 1) := by decide +kernel
theorem dX8_giveBack_23 : decode cX8_giveBack 23 = .ok (.invokevirtual 48, 3) := by decide +kernel
theorem dX8_giveBack_26 : decode cX8_giveBack 26 = .ok (.ireturn, 1) := by decide +kernel
theorem dX8_giveBack_27 : decode cX8_giveBack 27 = .ok (.iload_n 3, 1) := by decide +kernel
theorem dX8_giveBack_28 : decode cX8_giveBack 28 = .ok (.iconst 1, 1) := by decide +kernel
theorem dX8_giveBack_29 : decode cX8_giveBack 29 = .ok (.sipush 3333, 3) := by decide +kernel
theorem dX8_giveBack_32 : decode cX8_giveBack 32 = .ok (.invokestatic 55, 3) := by decide +kernel
theorem dX8_giveBack_35 : decode cX8_giveBack 35 = .ok (.ifCond .eq 13, 3) := by decide +kernel
theorem dX8_giveBack_38 : decode cX8_giveBack 38 = .ok (.iload_n 3, 1) := by decide +kernel
theorem dX8_giveBack_39 : decode cX8_giveBack 39 = .ok (.aload_n 0, 1) := by decide +kernel
theorem dX8_giveBack_40 : decode cX8_giveBack 40 = .ok (.iload_n 1, 1) := by decide +kernel
theorem dX8_giveBack_41 : decode cX8_giveBack 41 = .ok (.iload_n 2, 1) := by decide +kernel
theorem dX8_giveBack_42 : decode cX8_giveBack 42 = .ok (.invokevirtual 181, 3) := by decide +kernel
theorem dX8_giveBack_45 : decode cX8_giveBack 45 = .ok (.if_icmp .le 9, 3) := by decide +kernel
theorem dX8_giveBack_48 : decode cX8_giveBack 48 = .ok (.aload_n 0, 1) := by decide +kernel
theorem dX8_giveBack_49 : decode cX8_giveBack 49 = .ok (.iconst 2, 1) := by decide +kernel
theorem dX8_giveBack_50 : decode cX8_giveBack 50 = .ok (.invokevirtual 48, 3) := by decide +kernel
theorem dX8_giveBack_53 : decode cX8_giveBack 53 = .ok (.ireturn, 1) := by decide +kernel
theorem dX8_giveBack_54 : decode cX8_giveBack 54 = .ok (.aload_n 0, 1) := by decide +kernel
theorem dX8_giveBack_55 : decode cX8_giveBack 55 = .ok (.invokevirtual 63, 3) := by decide +kernel
theorem dX8_giveBack_58 : decode cX8_giveBack 58 = .ok (.aload_n 0, 1) := by decide +kernel
theorem dX8_giveBack_59 : decode cX8_giveBack 59 = .ok (.iload_n 1, 1) := by decide +kernel
theorem dX8_giveBack_60 : decode cX8_giveBack 60 = .ok (.iload_n 2, 1) := by decide +kernel
theorem dX8_giveBack_61 : decode cX8_giveBack 61 = .ok (.invokevirtual 181, 3) := by decide +kernel
theorem dX8_giveBack_64 : decode cX8_giveBack 64 = .ok (.iload_n 3, 1) := by decide +kernel
theorem dX8_giveBack_65 : decode cX8_giveBack 65 = .ok (.isub, 1) := by decide +kernel
theorem dX8_giveBack_66 : decode cX8_giveBack 66 = .ok (.istore 4, 2) := by decide +kernel
theorem dX8_giveBack_68 : decode cX8_giveBack 68 = .ok (.aload_n 0, 1) := by decide +kernel
theorem dX8_giveBack_69 : decode cX8_giveBack 69 = .ok (.getfield 9, 3) := by decide +kernel
theorem dX8_giveBack_72 : decode cX8_giveBack 72 = .ok (.sipush 776, 3) := by decide +kernel
theorem dX8_giveBack_75 : decode cX8_giveBack 75 = .ok (.bipush 16, 2) := by decide +kernel
theorem dX8_giveBack_77 : decode cX8_giveBack 77 = .ok (.iload_n 1, 1) := by decide +kernel
theorem dX8_giveBack_78 : decode cX8_giveBack 78 = .ok (.imul, 1) := by decide +kernel
theorem dX8_giveBack_79 : decode cX8_giveBack 79 = .ok (.iadd, 1) := by decide +kernel
theorem dX8_giveBack_80 : decode cX8_giveBack 80 = .ok (.iload_n 2, 1) := by decide +kernel
theorem dX8_giveBack_81 : decode cX8_giveBack 81 = .ok (.iadd, 1) := by decide +kernel
theorem dX8_giveBack_82 : decode cX8_giveBack 82 = .ok (.iload 4, 2) := by decide +kernel
theorem dX8_giveBack_84 : decode cX8_giveBack 84 = .ok (.iastore, 1) := by decide +kernel
theorem dX8_giveBack_85 : decode cX8_giveBack 85 = .ok (.aload_n 0, 1) := by decide +kernel
theorem dX8_giveBack_86 : decode cX8_giveBack 86 = .ok (.getfield 9, 3) := by decide +kernel
theorem dX8_giveBack_89 : decode cX8_giveBack 89 = .ok (.sipush 904, 3) := by decide +kernel
theorem dX8_giveBack_92 : decode cX8_giveBack 92 = .ok (.bipush 16, 2) := by decide +kernel
theorem dX8_giveBack_94 : decode cX8_giveBack 94 = .ok (.iload_n 1, 1) := by decide +kernel
theorem dX8_giveBack_95 : decode cX8_giveBack 95 = .ok (.imul, 1) := by decide +kernel
theorem dX8_giveBack_96 : decode cX8_giveBack 96 = .ok (.iadd, 1) := by decide +kernel
theorem dX8_giveBack_97 : decode cX8_giveBack 97 = .ok (.iload_n 2, 1) := by decide +kernel
theorem dX8_giveBack_98 : decode cX8_giveBack 98 = .ok (.iadd, 1) := by decide +kernel
theorem dX8_giveBack_99 : decode cX8_giveBack 99 = .ok (.aload_n 0, 1) := by decide +kernel
theorem dX8_giveBack_100 : decode cX8_giveBack 100 = .ok (.iload_n 1, 1) := by decide +kernel
theorem dX8_giveBack_101 : decode cX8_giveBack 101 = .ok (.iload_n 2, 1) := by decide +kernel
theorem dX8_giveBack_102 : decode cX8_giveBack 102 = .ok (.invokevirtual 184, 3) := by decide +kernel
theorem dX8_giveBack_105 : decode cX8_giveBack 105 = .ok (.iload 4, 2) := by decide +kernel
theorem dX8_giveBack_107 : decode cX8_giveBack 107 = .ok (.invokestatic 205, 3) := by decide +kernel
theorem dX8_giveBack_110 : decode cX8_giveBack 110 = .ok (.iastore, 1) := by decide +kernel
theorem dX8_giveBack_111 : decode cX8_giveBack 111 = .ok (.aload_n 0, 1) := by decide +kernel
theorem dX8_giveBack_112 : decode cX8_giveBack 112 = .ok (.iload_n 2, 1) := by decide +kernel
theorem dX8_giveBack_113 : decode cX8_giveBack 113 = .ok (.iconst 2, 1) := by decide +kernel
theorem dX8_giveBack_114 : decode cX8_giveBack 114 = .ok (.aload_n 0, 1) := by decide +kernel
theorem dX8_giveBack_115 : decode cX8_giveBack 115 = .ok (.iload_n 2, 1) := by decide +kernel
theorem dX8_giveBack_116 : decode cX8_giveBack 116 = .ok (.iconst 2, 1) := by decide +kernel
theorem dX8_giveBack_117 : decode cX8_giveBack 117 = .ok (.invokevirtual 169, 3) := by decide +kernel
theorem dX8_giveBack_120 : decode cX8_giveBack 120 = .ok (.iload_n 3, 1) := by decide +kernel
theorem dX8_giveBack_121 : decode cX8_giveBack 121 = .ok (.iadd, 1) := by decide +kernel
theorem dX8_giveBack_122 : decode cX8_giveBack 122 = .ok (.invokevirtual 166, 3) := by decide +kernel
theorem dX8_giveBack_125 : decode cX8_giveBack 125 = .ok (.iload 4, 2) := by decide +kernel
theorem dX8_giveBack_127 : decode cX8_giveBack 127 = .ok (.ireturn, 1) := by decide +kernel
theorem dX8_holds_0 : decode cX8_holds 0 = .ok (.aload_n 0, 1) := by decide +kernel
theorem dX8_holds_1 : decode cX8_holds 1 = .ok (.iconst 0, 1) := by decide +kernel
theorem dX8_holds_2 : decode cX8_holds 2 = .ok (.putfield 42, 3) := by decide +kernel
theorem dX8_holds_5 : decode cX8_holds 5 = .ok (.aload_n 0, 1) := by decide +kernel
theorem dX8_holds_6 : decode cX8_holds 6 = .ok (.iload_n 1, 1) := by decide +kernel
theorem dX8_holds_7 : decode cX8_holds 7 = .ok (.invokevirtual 196, 3) := by decide +kernel
theorem dX8_holds_10 : decode cX8_holds 10 = .ok (.ifCond .eq 11, 3) := by decide +kernel
theorem dX8_holds_13 : decode cX8_holds 13 = .ok (.aload_n 0, 1) := by decide +kernel
theorem dX8_holds_14 : decode cX8_holds 14 = .ok (.iload_n 2, 1) := by decide +kernel
theorem dX8_holds_15 : decode cX8_holds 15 = .ok (.invokevirtual 172, 3) := by decide +kernel
theorem dX8_holds_18 : decode cX8_holds 18 = .ok (.ifCond .ne 9, 3) := by decide +kernel
theorem dX8_holds_21 : decode cX8_holds 21 = .ok (.aload_n 0, 1) := by decide +kernel
theorem dX8_holds_22 : decode cX8_holds 22 = .ok (.iconst 1, 1) := by decide +kernel
theorem dX8_holds_23 : decode cX8_holds 23 = .ok (.invokevirtual 48, 3) := by decide +kernel
theorem dX8_holds_26 : decode cX8_holds 26 = .ok (.ireturn, 1) := by decide +kernel
theorem dX8_holds_27 : decode cX8_holds 27 = .ok (.iload_n 3, 1) := by decide +kernel
theorem dX8_holds_28 : decode cX8_holds 28 = .ok (.ifCond .ne 12, 3) := by decide +kernel
theorem dX8_holds_31 : decode cX8_holds 31 = .ok (.aload_n 0, 1) := by decide +kernel
theorem dX8_holds_32 : decode cX8_holds 32 = .ok (.iload_n 1, 1) := by decide +kernel
theorem dX8_holds_33 : decode cX8_holds 33 = .ok (.iload_n 2, 1) := by decide +kernel
theorem dX8_holds_34 : decode cX8_holds 34 = .ok (.invokevirtual 181, 3) := by decide +kernel
theorem dX8_holds_37 : decode cX8_holds 37 = .ok (.goto 36, 3) := by decide +kernel
theorem dX8_holds_40 : decode cX8_holds 40 = .ok (.iload_n 3, 1) := by decide +kernel
theorem dX8_holds_41 : decode cX8_holds 41 = .ok (.iconst 1, 1) := by decide +kernel
theorem dX8_holds_42 : decode cX8_holds 42 = .ok (.if_icmp .ne 12, 3) := by decide +kernel
theorem dX8_holds_45 : decode cX8_holds 45 = .ok (.aload_n 0, 1) := by decide +kernel
theorem dX8_holds_46 : decode cX8_holds 46 = .ok (.iload_n 1, 1) := by decide +kernel
theorem dX8_holds_47 : decode cX8_holds 47 = .ok (.iload_n 2, 1) := by decide +kernel
theorem dX8_holds_48 : decode cX8_holds 48 = .ok (.invokevirtual 184, 3) := by decide +kernel
theorem dX8_holds_51 : decode cX8_holds 51 = .ok (.goto 22, 3) := by decide +kernel
theorem dX8_holds_54 : decode cX8_holds 54 = .ok (.iload_n 3, 1) := by decide +kernel
theorem dX8_holds_55 : decode cX8_holds 55 = .ok (.iconst 2, 1) := by decide +kernel
theorem dX8_holds_56 : decode cX8_holds 56 = .ok (.if_icmp .ne 12, 3) := by decide +kernel
theorem dX8_holds_59 : decode cX8_holds 59 = .ok (.aload_n 0, 1) := by decide +kernel
theorem dX8_holds_60 : decode cX8_holds 60 = .ok (.iload_n 1, 1) := by decide +kernel
theorem dX8_holds_61 : decode cX8_holds 61 = .ok (.iload_n 2, 1) := by decide +kernel
theorem dX8_holds_62 : decode cX8_holds 62 = .ok (.invokevirtual 193, 3) := by decide +kernel
theorem dX8_holds_65 : decode cX8_holds 65 = .ok (.goto 8, 3) := by decide +kernel
theorem dX8_holds_68 : decode cX8_holds 68 = .ok (.aload_n 0, 1) := by decide +kernel
theorem dX8_holds_69 : decode cX8_holds 69 = .ok (.iconst 2, 1) := by decide +kernel
theorem dX8_holds_70 : decode cX8_holds 70 = .ok (.invokevirtual 48, 3) := by decide +kernel
theorem dX8_holds_73 : decode cX8_holds 73 = .ok (.ireturn, 1) := by decide +kernel
theorem dX8_listed_0 : decode cX8_listed 0 = .ok (.aload_n 0, 1) := by decide +kernel
theorem dX8_listed_1 : decode cX8_listed 1 = .ok (.iconst 0, 1) := by decide +kernel
theorem dX8_listed_2 : decode cX8_listed 2 = .ok (.putfield 42, 3) := by decide +kernel
theorem dX8_listed_5 : decode cX8_listed 5 = .ok (.aload_n 0, 1) := by decide +kernel
theorem dX8_listed_6 : decode cX8_listed 6 = .ok (.iload_n 1, 1) := by decide +kernel
theorem dX8_listed_7 : decode cX8_listed 7 = .ok (.invokevirtual 172, 3) := by decide +kernel
theorem dX8_listed_10 : decode cX8_listed 10 = .ok (.ifCond .ne 9, 3) := by decide +kernel
theorem dX8_listed_13 : decode cX8_listed 13 = .ok (.aload_n 0, 1) := by decide +kernel
theorem dX8_listed_14 : decode cX8_listed 14 = .ok (.iconst 1, 1) := by decide +kernel
theorem dX8_listed_15 : decode cX8_listed 15 = .ok (.invokevirtual 48, 3) := by decide +kernel
theorem dX8_listed_18 : decode cX8_listed 18 = .ok (.ireturn, 1) := by decide +kernel
theorem dX8_listed_19 : decode cX8_listed 19 = .ok (.aload_n 0, 1) := by decide +kernel
theorem dX8_listed_20 : decode cX8_listed 20 = .ok (.iload_n 1, 1) := by decide +kernel
theorem dX8_listed_21 : decode cX8_listed 21 = .ok (.iload_n 2, 1) := by decide +kernel
theorem dX8_listed_22 : decode cX8_listed 22 = .ok (.invokevirtual 199, 3) := by decide +kernel
theorem dX8_listed_25 : decode cX8_listed 25 = .ok (.istore_n 3, 1) := by decide +kernel
theorem dX8_listed_26 : decode cX8_listed 26 = .ok (.iload_n 3, 1) := by decide +kernel
theorem dX8_listed_27 : decode cX8_listed 27 = .ok (.iconst (-1), 1) := by decide +kernel
theorem dX8_listed_28 : decode cX8_listed 28 = .ok (.if_icmp .ne 11, 3) := by decide +kernel
theorem dX8_listed_31 : decode cX8_listed 31 = .ok (.aload_n 0, 1) := by decide +kernel
theorem dX8_listed_32 : decode cX8_listed 32 = .ok (.iconst 2, 1) := by decide +kernel
theorem dX8_listed_33 : decode cX8_listed 33 = .ok (.invokevirtual 48, 3) := by decide +kernel
theorem dX8_listed_36 : decode cX8_listed 36 = .ok (.goto 4, 3) := by decide +kernel
theorem dX8_listed_39 : decode cX8_listed 39 = .ok (.iload_n 3, 1) := by decide +kernel
theorem dX8_listed_40 : decode cX8_listed 40 = .ok (.ireturn, 1) := by decide +kernel
theorem dX8_findWays_0 : decode cX8_findWays 0 = .ok (.iconst 0, 1) := by decide +kernel
theorem dX8_findWays_1 : decode cX8_findWays 1 = .ok (.istore_n 2, 1) := by decide +kernel
theorem dX8_findWays_2 : decode cX8_findWays 2 = .ok (.iload_n 2, 1) := by decide +kernel
theorem dX8_findWays_3 : decode cX8_findWays 3 = .ok (.aload_n 0, 1) := by decide +kernel
theorem dX8_findWays_4 : decode cX8_findWays 4 = .ok (.getfield 9, 3) := by decide +kernel
theorem dX8_findWays_7 : decode cX8_findWays 7 = .ok (.iconst 0, 1) := by decide +kernel
theorem dX8_findWays_8 : decode cX8_findWays 8 = .ok (.iaload, 1) := by decide +kernel
theorem dX8_findWays_9 : decode cX8_findWays 9 = .ok (.if_icmp .ge 70, 3) := by decide +kernel
theorem dX8_findWays_12 : decode cX8_findWays 12 = .ok (.aload_n 0, 1) := by decide +kernel
theorem dX8_findWays_13 : decode cX8_findWays 13 = .ok (.getfield 39, 3) := by decide +kernel
theorem dX8_findWays_16 : decode cX8_findWays 16 = .ok (.iload_n 2, 1) := by decide +kernel
theorem dX8_findWays_17 : decode cX8_findWays 17 = .ok (.iload_n 2, 1) := by decide +kernel
theorem dX8_findWays_18 : decode cX8_findWays 18 = .ok (.iload_n 1, 1) := by decide +kernel
theorem dX8_findWays_19 : decode cX8_findWays 19 = .ok (.if_icmp .ne 7, 3) := by decide +kernel
theorem dX8_findWays_22 : decode cX8_findWays 22 = .ok (.iconst 1, 1) := by decide +kernel
theorem dX8_findWays_23 : decode cX8_findWays 23 = .ok (.goto 4, 3) := by decide +kernel
theorem dX8_findWays_26 : decode cX8_findWays 26 = .ok (.iconst 0, 1) := by decide +kernel
theorem dX8_findWays_27 : decode cX8_findWays 27 = .ok (.iastore, 1) := by decide +kernel
theorem dX8_findWays_28 : decode cX8_findWays 28 = .ok (.iconst 0, 1) := by decide +kernel
theorem dX8_findWays_29 : decode cX8_findWays 29 = .ok (.istore_n 3, 1) := by decide +kernel
theorem dX8_findWays_30 : decode cX8_findWays 30 = .ok (.iload_n 3, 1) := by decide +kernel
theorem dX8_findWays_31 : decode cX8_findWays 31 = .ok (.aload_n 0, 1) := by decide +kernel
theorem dX8_findWays_32 : decode cX8_findWays 32 = .ok (.iload_n 2, 1) := by decide +kernel
theorem dX8_findWays_33 : decode cX8_findWays 33 = .ok (.iconst 2, 1) := by decide +kernel
theorem dX8_findWays_34 : decode cX8_findWays 34 = .ok (.invokevirtual 102, 3) := by decide +kernel
theorem dX8_findWays_37 : decode cX8_findWays 37 = .ok (.if_icmp .ge 36, 3) := by decide +kernel
theorem dX8_findWays_40 : decode cX8_findWays 40 = .ok (.iload_n 2, 1) := by decide +kernel
theorem dX8_findWays_41 : decode cX8_findWays 41 = .ok (.iload_n 1, 1) := by decide +kernel
theorem dX8_findWays_42 : decode cX8_findWays 42 = .ok (.if_icmp .eq 31, 3) := by decide +kernel
theorem dX8_findWays_45 : decode cX8_findWays 45 = .ok (.aload_n 0, 1) := by decide +kernel
theorem dX8_findWays_46 : decode cX8_findWays 46 = .ok (.getfield 39, 3) := by decide +kernel
theorem dX8_findWays_49 : decode cX8_findWays 49 = .ok (.iload_n 2, 1) := by decide +kernel
theorem dX8_findWays_50 : decode cX8_findWays 50 = .ok (.dup2, 1) := by decide +kernel
theorem dX8_findWays_51 : decode cX8_findWays 51 = .ok (.iaload, 1) := by decide +kernel
theorem dX8_findWays_52 : decode cX8_findWays 52 = .ok (.aload_n 0, 1) := by decide +kernel
theorem dX8_findWays_53 : decode cX8_findWays 53 = .ok (.getfield 39, 3) := by decide +kernel
theorem dX8_findWays_56 : decode cX8_findWays 56 = .ok (.aload_n 0, 1) := by decide +kernel
theorem dX8_findWays_57 : decode cX8_findWays 57 = .ok (.iload_n 2, 1) := by decide +kernel
theorem dX8_findWays_58 : decode cX8_findWays 58 = .ok (.iconst 5, 1) := by decide +kernel
theorem dX8_findWays_59 : decode cX8_findWays 59 = .ok (.iload_n 3, 1) := by decide +kernel
theorem dX8_findWays_60 : decode cX8_findWays 60 = .ok (.iadd, 1) := by decide +kernel
theorem dX8_findWays_61 : decode cX8_findWays 61 = .ok (.invokevirtual 102, 3) := by decide +kernel
theorem dX8_findWays_64 : decode cX8_findWays 64 = .ok (.iaload, 1) := by decide +kernel
theorem dX8_findWays_65 : decode cX8_findWays 65 = .ok (.iadd, 1) := by decide +kernel
theorem dX8_findWays_66 : decode cX8_findWays 66 = .ok (.iastore, 1) := by decide +kernel
theorem dX8_findWays_67 : decode cX8_findWays 67 = .ok (.iinc 3 1, 3) := by decide +kernel
theorem dX8_findWays_70 : decode cX8_findWays 70 = .ok (.goto (-40), 3) := by decide +kernel
theorem dX8_findWays_73 : decode cX8_findWays 73 = .ok (.iinc 2 1, 3) := by decide +kernel
theorem dX8_findWays_76 : decode cX8_findWays 76 = .ok (.goto (-74), 3) := by decide +kernel
theorem dX8_findWays_79 : decode cX8_findWays 79 = .ok (.return_, 1) := by decide +kernel
theorem dX8_recalling_0 : decode cX8_recalling 0 = .ok (.aload_n 0, 1) := by decide +kernel
theorem dX8_recalling_1 : decode cX8_recalling 1 = .ok (.iload_n 1, 1) := by decide +kernel
theorem dX8_recalling_2 : decode cX8_recalling 2 = .ok (.invokevirtual 211, 3) := by decide +kernel
theorem dX8_recalling_5 : decode cX8_recalling 5 = .ok (.iconst 0, 1) := by decide +kernel
theorem dX8_recalling_6 : decode cX8_recalling 6 = .ok (.istore_n 2, 1) := by decide +kernel
theorem dX8_recalling_7 : decode cX8_recalling 7 = .ok (.iconst 0, 1) := by decide +kernel
theorem dX8_recalling_8 : decode cX8_recalling 8 = .ok (.istore_n 3, 1) := by decide +kernel
theorem dX8_recalling_9 : decode cX8_recalling 9 = .ok (.iload_n 3, 1) := by decide +kernel
theorem dX8_recalling_10 : decode cX8_recalling 10 = .ok (.aload_n 0, 1) := by decide +kernel
theorem dX8_recalling_11 : decode cX8_recalling 11 = .ok (.getfield 9, 3) := by decide +kernel
theorem dX8_recalling_14 : decode cX8_recalling 14 = .ok (.iconst 2, 1) := by decide +kernel
theorem dX8_recalling_15 : decode cX8_recalling 15 = .ok (.iaload, 1) := by decide +kernel
theorem dX8_recalling_16 : decode cX8_recalling 16 = .ok (.if_icmp .ge 33, 3) := by decide +kernel
theorem dX8_recalling_19 : decode cX8_recalling 19 = .ok (.iload_n 2, 1) := by decide +kernel
theorem dX8_recalling_20 : decode cX8_recalling 20 = .ok (.aload_n 0, 1) := by decide +kernel
theorem dX8_recalling_21 : decode cX8_recalling 21 = .ok (.getfield 39, 3) := by decide +kernel
theorem dX8_recalling_24 : decode cX8_recalling 24 = .ok (.aload_n 0, 1) := by decide +kernel
theorem dX8_recalling_25 : decode cX8_recalling 25 = .ok (.iload_n 3, 1) := by decide +kernel
theorem dX8_recalling_26 : decode cX8_recalling 26 = .ok (.iconst 0, 1) := by decide +kernel
theorem dX8_recalling_27 : decode cX8_recalling 27 = .ok (.invokevirtual 169, 3) := by decide +kernel
theorem dX8_recalling_30 : decode cX8_recalling 30 = .ok (.iaload, 1) := by decide +kernel
theorem dX8_recalling_31 : decode cX8_recalling 31 = .ok (.ifCond .le 9, 3) := by decide +kernel
theorem dX8_recalling_34 : decode cX8_recalling 34 = .ok (.iconst 1, 1) := by decide +kernel
theorem dX8_recalling_35 : decode cX8_recalling 35 = .ok (.iload_n 3, 1) := by decide +kernel
theorem dX8_recalling_36 : decode cX8_recalling 36 = .ok (.ishl, 1) := by decide +kernel
theorem dX8_recalling_37 : decode cX8_recalling 37 = .ok (.goto 4, 3) := by decide +kernel
theorem dX8_recalling_40 : decode cX8_recalling 40 = .ok (.iconst 0, 1) := by decide +kernel
theorem dX8_recalling_41 : decode cX8_recalling 41 = .ok (.ior, 1) := by decide +kernel
theorem dX8_recalling_42 : decode cX8_recalling 42 = .ok (.istore_n 2, 1) := by decide +kernel
theorem dX8_recalling_43 : decode cX8_recalling 43 = .ok (.iinc 3 1, 3) := by decide +kernel
theorem dX8_recalling_46 : decode cX8_recalling 46 = .ok (.goto (-37), 3) := by decide +kernel
theorem dX8_recalling_49 : decode cX8_recalling 49 = .ok (.iload_n 2, 1) := by decide +kernel
theorem dX8_recalling_50 : decode cX8_recalling 50 = .ok (.ireturn, 1) := by decide +kernel
theorem dX8_recalled_0 : decode cX8_recalled 0 = .ok (.aload_n 0, 1) := by decide +kernel
theorem dX8_recalled_1 : decode cX8_recalled 1 = .ok (.aload_n 0, 1) := by decide +kernel
theorem dX8_recalled_2 : decode cX8_recalled 2 = .ok (.iload_n 1, 1) := by decide +kernel
theorem dX8_recalled_3 : decode cX8_recalled 3 = .ok (.invokevirtual 98, 3) := by decide +kernel
theorem dX8_recalled_6 : decode cX8_recalled 6 = .ok (.ifCond .eq 7, 3) := by decide +kernel
theorem dX8_recalled_9 : decode cX8_recalled 9 = .ok (.iconst 0, 1) := by decide +kernel
theorem dX8_recalled_10 : decode cX8_recalled 10 = .ok (.goto 4, 3) := by decide +kernel
theorem dX8_recalled_13 : decode cX8_recalled 13 = .ok (.iconst 1, 1) := by decide +kernel
theorem dX8_recalled_14 : decode cX8_recalled 14 = .ok (.putfield 42, 3) := by decide +kernel
theorem dX8_recalled_17 : decode cX8_recalled 17 = .ok (.aload_n 0, 1) := by decide +kernel
theorem dX8_recalled_18 : decode cX8_recalled 18 = .ok (.getfield 42, 3) := by decide +kernel
theorem dX8_recalled_21 : decode cX8_recalled 21 = .ok (.ifCond .ne 11, 3) := by decide +kernel
theorem dX8_recalled_24 : decode cX8_recalled 24 = .ok (.aload_n 0, 1) := by decide +kernel
theorem dX8_recalled_25 : decode cX8_recalled 25 = .ok (.iload_n 1, 1) := by decide +kernel
theorem dX8_recalled_26 : decode cX8_recalled 26 = .ok (.invokevirtual 214, 3) := by decide +kernel
theorem dX8_recalled_29 : decode cX8_recalled 29 = .ok (.goto 4, 3) := by decide +kernel
theorem dX8_recalled_32 : decode cX8_recalled 32 = .ok (.iconst 0, 1) := by decide +kernel
theorem dX8_recalled_33 : decode cX8_recalled 33 = .ok (.ireturn, 1) := by decide +kernel
theorem dX8_recalledAgain_0 : decode cX8_recalledAgain 0 = .ok (.aload_n 0, 1) := by decide +kernel
theorem dX8_recalledAgain_1 : decode cX8_recalledAgain 1 = .ok (.aload_n 0, 1) := by decide +kernel
theorem dX8_recalledAgain_2 : decode cX8_recalledAgain 2 = .ok (.iload_n 1, 1) := by decide +kernel
theorem dX8_recalledAgain_3 : decode cX8_recalledAgain 3 = .ok (.invokevirtual 98, 3) := by decide +kernel
theorem dX8_recalledAgain_6 : decode cX8_recalledAgain 6 = .ok (.ifCond .eq 7, 3) := by decide +kernel
theorem dX8_recalledAgain_9 : decode cX8_recalledAgain 9 = .ok (.iconst 0, 1) := by decide +kernel
theorem dX8_recalledAgain_10 : decode cX8_recalledAgain 10 = .ok (.goto 4, 3) := by decide +kernel
theorem dX8_recalledAgain_13 : decode cX8_recalledAgain 13 = .ok (.iconst 1, 1) := by decide +kernel
theorem dX8_recalledAgain_14 : decode cX8_recalledAgain 14 = .ok (.putfield 42, 3) := by decide +kernel
theorem dX8_recalledAgain_17 : decode cX8_recalledAgain 17 = .ok (.aload_n 0, 1) := by decide +kernel
theorem dX8_recalledAgain_18 : decode cX8_recalledAgain 18 = .ok (.getfield 42, 3) := by decide +kernel
theorem dX8_recalledAgain_21 : decode cX8_recalledAgain 21 = .ok (.ifCond .ne 11, 3) := by decide +kernel
theorem dX8_recalledAgain_24 : decode cX8_recalledAgain 24 = .ok (.aload_n 0, 1) := by decide +kernel
theorem dX8_recalledAgain_25 : decode cX8_recalledAgain 25 = .ok (.iload_n 1, 1) := by decide +kernel
theorem dX8_recalledAgain_26 : decode cX8_recalledAgain 26 = .ok (.invokevirtual 214, 3) := by decide +kernel
theorem dX8_recalledAgain_29 : decode cX8_recalledAgain 29 = .ok (.goto 4, 3) := by decide +kernel
theorem dX8_recalledAgain_32 : decode cX8_recalledAgain 32 = .ok (.iconst 0, 1) := by decide +kernel
theorem dX8_recalledAgain_33 : decode cX8_recalledAgain 33 = .ok (.ireturn, 1) := by decide +kernel
theorem dX8_bottlesOf_0 : decode cX8_bottlesOf 0 = .ok (.aload_n 0, 1) := by decide +kernel
theorem dX8_bottlesOf_1 : decode cX8_bottlesOf 1 = .ok (.aload_n 0, 1) := by decide +kernel
theorem dX8_bottlesOf_2 : decode cX8_bottlesOf 2 = .ok (.iload_n 1, 1) := by decide +kernel
theorem dX8_bottlesOf_3 : decode cX8_bottlesOf 3 = .ok (.invokevirtual 98, 3) := by decide +kernel
theorem dX8_bottlesOf_6 : decode cX8_bottlesOf 6 = .ok (.ifCond .eq 20, 3) := by decide +kernel
theorem dX8_bottlesOf_9 : decode cX8_bottlesOf 9 = .ok (.iload_n 2, 1) := by decide +kernel
theorem dX8_bottlesOf_10 : decode cX8_bottlesOf 10 = .ok (.iconst (-1), 1) := by decide +kernel
theorem dX8_bottlesOf_11 : decode cX8_bottlesOf 11 = .ok (.if_icmp .eq 11, 3) := by decide +kernel
theorem dX8_bottlesOf_14 : decode cX8_bottlesOf 14 = .ok (.aload_n 0, 1) := by decide +kernel
theorem dX8_bottlesOf_15 : decode cX8_bottlesOf 15 = .ok (.iload_n 2, 1) := by decide +kernel
theorem dX8_bottlesOf_16 : decode cX8_bottlesOf 16 = .ok (.invokevirtual 196, 3) := by decide +kernel
theorem dX8_bottlesOf_19 : decode cX8_bottlesOf 19 = .ok (.ifCond .eq 7, 3) := by decide +kernel
theorem dX8_bottlesOf_22 : decode cX8_bottlesOf 22 = .ok (.iconst 0, 1) := by decide +kernel
theorem dX8_bottlesOf_23 : decode cX8_bottlesOf 23 = .ok (.goto 4, 3) := by decide +kernel
theorem dX8_bottlesOf_26 : decode cX8_bottlesOf 26 = .ok (.iconst 1, 1) := by decide +kernel
theorem dX8_bottlesOf_27 : decode cX8_bottlesOf 27 = .ok (.putfield 42, 3) := by decide +kernel
theorem dX8_bottlesOf_30 : decode cX8_bottlesOf 30 = .ok (.aload_n 0, 1) := by decide +kernel
theorem dX8_bottlesOf_31 : decode cX8_bottlesOf 31 = .ok (.getfield 42, 3) := by decide +kernel
theorem dX8_bottlesOf_34 : decode cX8_bottlesOf 34 = .ok (.ifCond .eq 5, 3) := by decide +kernel
theorem dX8_bottlesOf_37 : decode cX8_bottlesOf 37 = .ok (.iconst 0, 1) := by decide +kernel
theorem dX8_bottlesOf_38 : decode cX8_bottlesOf 38 = .ok (.ireturn, 1) := by decide +kernel
theorem dX8_bottlesOf_39 : decode cX8_bottlesOf 39 = .ok (.aload_n 0, 1) := by decide +kernel
theorem dX8_bottlesOf_40 : decode cX8_bottlesOf 40 = .ok (.iload_n 1, 1) := by decide +kernel
theorem dX8_bottlesOf_41 : decode cX8_bottlesOf 41 = .ok (.invokevirtual 214, 3) := by decide +kernel
theorem dX8_bottlesOf_44 : decode cX8_bottlesOf 44 = .ok (.istore_n 3, 1) := by decide +kernel
theorem dX8_bottlesOf_45 : decode cX8_bottlesOf 45 = .ok (.iconst 0, 1) := by decide +kernel
theorem dX8_bottlesOf_46 : decode cX8_bottlesOf 46 = .ok (.istore 4, 2) := by decide +kernel
theorem dX8_bottlesOf_48 : decode cX8_bottlesOf 48 = .ok (.iconst 0, 1) := by decide +kernel
theorem dX8_bottlesOf_49 : decode cX8_bottlesOf 49 = .ok (.istore 5, 2) := by decide +kernel
theorem dX8_bottlesOf_51 : decode cX8_bottlesOf 51 = .ok (.iload 5, 2) := by decide +kernel
theorem dX8_bottlesOf_53 : decode cX8_bottlesOf 53 = .ok (.aload_n 0, 1) := by decide +kernel
theorem dX8_bottlesOf_54 : decode cX8_bottlesOf 54 = .ok (.getfield 9, 3) := by decide +kernel
theorem dX8_bottlesOf_57 : decode cX8_bottlesOf 57 = .ok (.iconst 2, 1) := by decide +kernel
theorem dX8_bottlesOf_58 : decode cX8_bottlesOf 58 = .ok (.iaload, 1) := by decide +kernel
theorem dX8_bottlesOf_59 : decode cX8_bottlesOf 59 = .ok (.if_icmp .ge 62, 3) := by decide +kernel
theorem dX8_bottlesOf_62 : decode cX8_bottlesOf 62 = .ok (.iload_n 3, 1) := by decide +kernel
theorem dX8_bottlesOf_63 : decode cX8_bottlesOf 63 = .ok (.iload 5, 2) := by decide +kernel
theorem dX8_bottlesOf_65 : decode cX8_bottlesOf 65 = .ok (.ishr, 1) := by decide +kernel
theorem dX8_bottlesOf_66 : decode cX8_bottlesOf 66 = .ok (.iconst 1, 1) := by decide +kernel
theorem dX8_bottlesOf_67 : decode cX8_bottlesOf 67 = .ok (.iand, 1) := by decide +kernel
theorem dX8_bottlesOf_68 : decode cX8_bottlesOf 68 = .ok (.iconst 1, 1) := by decide +kernel
theorem dX8_bottlesOf_69 : decode cX8_bottlesOf 69 = .ok (.if_icmp .ne 7, 3) := by decide +kernel
theorem dX8_bottlesOf_72 : decode cX8_bottlesOf 72 = .ok (.iconst 1, 1) := by decide +kernel
theorem dX8_bottlesOf_73 : decode cX8_bottlesOf 73 = .ok (.goto 4, 3) := by decide +kernel
theorem dX8_bottlesOf_76 : decode cX8_bottlesOf 76 = .ok (.iconst 0, 1) := by decide +kernel
theorem dX8_bottlesOf_77 : decode cX8_bottlesOf 77 = .ok (.istore 6, 2) := by decide +kernel
theorem dX8_bottlesOf_79 : decode cX8_bottlesOf 79 = .ok (.iload 4, 2) := by decide +kernel
theorem dX8_bottlesOf_81 : decode cX8_bottlesOf 81 = .ok (.iload 6, 2) := by decide +kernel
theorem dX8_bottlesOf_83 : decode cX8_bottlesOf 83 = .ok (.ifCond .ne 7, 3) := by decide +kernel
theorem dX8_bottlesOf_86 : decode cX8_bottlesOf 86 = .ok (.iconst 0, 1) := by decide +kernel
theorem dX8_bottlesOf_87 : decode cX8_bottlesOf 87 = .ok (.goto 25, 3) := by decide +kernel
theorem dX8_bottlesOf_90 : decode cX8_bottlesOf 90 = .ok (.iload_n 2, 1) := by decide +kernel
theorem dX8_bottlesOf_91 : decode cX8_bottlesOf 91 = .ok (.iconst (-1), 1) := by decide +kernel
theorem dX8_bottlesOf_92 : decode cX8_bottlesOf 92 = .ok (.if_icmp .ne 13, 3) := by decide +kernel
theorem dX8_bottlesOf_95 : decode cX8_bottlesOf 95 = .ok (.aload_n 0, 1) := by decide +kernel
theorem dX8_bottlesOf_96 : decode cX8_bottlesOf 96 = .ok (.iload 5, 2) := by decide +kernel
theorem dX8_bottlesOf_98 : decode cX8_bottlesOf 98 = .ok (.iconst 2, 1) := by decide +kernel
theorem dX8_bottlesOf_99 : decode cX8_bottlesOf 99 = .ok (.invokevirtual 169, 3) := by decide +kernel
theorem dX8_bottlesOf_102 : decode cX8_bottlesOf 102 = .ok (.goto 10, 3) := by decide +kernel
theorem dX8_bottlesOf_105 : decode cX8_bottlesOf 105 = .ok (.aload_n 0, 1) := by decide +kernel
theorem dX8_bottlesOf_106 : decode cX8_bottlesOf 106 = .ok (.iload_n 2, 1) := by decide +kernel
theorem dX8_bottlesOf_107 : decode cX8_bottlesOf 107 = .ok (.iload 5, 2) := by decide +kernel
theorem dX8_bottlesOf_109 : decode cX8_bottlesOf 109 = .ok (.invokevirtual 181, 3) := by decide +kernel
theorem dX8_bottlesOf_112 : decode cX8_bottlesOf 112 = .ok (.iadd, 1) := by decide +kernel
theorem dX8_bottlesOf_113 : decode cX8_bottlesOf 113 = .ok (.istore 4, 2) := by decide +kernel
theorem dX8_bottlesOf_115 : decode cX8_bottlesOf 115 = .ok (.iinc 5 1, 3) := by decide +kernel
theorem dX8_bottlesOf_118 : decode cX8_bottlesOf 118 = .ok (.goto (-67), 3) := by decide +kernel
theorem dX8_bottlesOf_121 : decode cX8_bottlesOf 121 = .ok (.iload 4, 2) := by decide +kernel
theorem dX8_bottlesOf_123 : decode cX8_bottlesOf 123 = .ok (.ireturn, 1) := by decide +kernel
theorem dX8_ways_0 : decode cX8_ways 0 = .ok (.aload_n 0, 1) := by decide +kernel
theorem dX8_ways_1 : decode cX8_ways 1 = .ok (.aload_n 0, 1) := by decide +kernel
theorem dX8_ways_2 : decode cX8_ways 2 = .ok (.iload_n 1, 1) := by decide +kernel
theorem dX8_ways_3 : decode cX8_ways 3 = .ok (.invokevirtual 98, 3) := by decide +kernel
theorem dX8_ways_6 : decode cX8_ways 6 = .ok (.ifCond .eq 15, 3) := by decide +kernel
theorem dX8_ways_9 : decode cX8_ways 9 = .ok (.aload_n 0, 1) := by decide +kernel
theorem dX8_ways_10 : decode cX8_ways 10 = .ok (.iload_n 2, 1) := by decide +kernel
theorem dX8_ways_11 : decode cX8_ways 11 = .ok (.invokevirtual 98, 3) := by decide +kernel
theorem dX8_ways_14 : decode cX8_ways 14 = .ok (.ifCond .eq 7, 3) := by decide +kernel
theorem dX8_ways_17 : decode cX8_ways 17 = .ok (.iconst 0, 1) := by decide +kernel
theorem dX8_ways_18 : decode cX8_ways 18 = .ok (.goto 4, 3) := by decide +kernel
theorem dX8_ways_21 : decode cX8_ways 21 = .ok (.iconst 1, 1) := by decide +kernel
theorem dX8_ways_22 : decode cX8_ways 22 = .ok (.putfield 42, 3) := by decide +kernel
theorem dX8_ways_25 : decode cX8_ways 25 = .ok (.aload_n 0, 1) := by decide +kernel
theorem dX8_ways_26 : decode cX8_ways 26 = .ok (.getfield 42, 3) := by decide +kernel
theorem dX8_ways_29 : decode cX8_ways 29 = .ok (.ifCond .eq 5, 3) := by decide +kernel
theorem dX8_ways_32 : decode cX8_ways 32 = .ok (.iconst 0, 1) := by decide +kernel
theorem dX8_ways_33 : decode cX8_ways 33 = .ok (.ireturn, 1) := by decide +kernel
theorem dX8_ways_34 : decode cX8_ways 34 = .ok (.aload_n 0, 1) := by decide +kernel
theorem dX8_ways_35 : decode cX8_ways 35 = .ok (.iload_n 1, 1) := by decide +kernel
theorem dX8_ways_36 : decode cX8_ways 36 = .ok (.invokevirtual 211, 3) := by decide +kernel
theorem dX8_ways_39 : decode cX8_ways 39 = .ok (.aload_n 0, 1) := by decide +kernel
theorem dX8_ways_40 : decode cX8_ways 40 = .ok (.getfield 39, 3) := by decide +kernel
theorem dX8_ways_43 : decode cX8_ways 43 = .ok (.iload_n 2, 1) := by decide +kernel
theorem dX8_ways_44 : decode cX8_ways 44 = .ok (.iaload, 1) := by decide +kernel
theorem dX8_ways_45 : decode cX8_ways 45 = .ok (.ireturn, 1) := by decide +kernel
theorem dX8_sumOfLots_0 : decode cX8_sumOfLots 0 = .ok (.iconst 0, 1) := by decide +kernel
theorem dX8_sumOfLots_1 : decode cX8_sumOfLots 1 = .ok (.istore_n 1, 1) := by decide +kernel
theorem dX8_sumOfLots_2 : decode cX8_sumOfLots 2 = .ok (.iconst 0, 1) := by decide +kernel
theorem dX8_sumOfLots_3 : decode cX8_sumOfLots 3 = .ok (.istore_n 2, 1) := by decide +kernel
theorem dX8_sumOfLots_4 : decode cX8_sumOfLots 4 = .ok (.iload_n 2, 1) := by decide +kernel
theorem dX8_sumOfLots_5 : decode cX8_sumOfLots 5 = .ok (.aload_n 0, 1) := by decide +kernel
theorem dX8_sumOfLots_6 : decode cX8_sumOfLots 6 = .ok (.getfield 9, 3) := by decide +kernel
theorem dX8_sumOfLots_9 : decode cX8_sumOfLots 9 = .ok (.iconst 0, 1) := by decide +kernel
theorem dX8_sumOfLots_10 : decode cX8_sumOfLots 10 = .ok (.iaload, 1) := by decide +kernel
theorem dX8_sumOfLots_11 : decode cX8_sumOfLots 11 = .ok (.if_icmp .ge 18, 3) := by decide +kernel
theorem dX8_sumOfLots_14 : decode cX8_sumOfLots 14 = .ok (.iload_n 1, 1) := by decide +kernel
theorem dX8_sumOfLots_15 : decode cX8_sumOfLots 15 = .ok (.aload_n 0, 1) := by decide +kernel
theorem dX8_sumOfLots_16 : decode cX8_sumOfLots 16 = .ok (.iload_n 2, 1) := by decide +kernel
theorem dX8_sumOfLots_17 : decode cX8_sumOfLots 17 = .ok (.iconst 1, 1) := by decide +kernel
theorem dX8_sumOfLots_18 : decode cX8_sumOfLots 18 = .ok (.invokevirtual 102, 3) := by decide +kernel
theorem dX8_sumOfLots_21 : decode cX8_sumOfLots 21 = .ok (.iadd, 1) := by decide +kernel
theorem dX8_sumOfLots_22 : decode cX8_sumOfLots 22 = .ok (.istore_n 1, 1) := by decide +kernel
theorem dX8_sumOfLots_23 : decode cX8_sumOfLots 23 = .ok (.iinc 2 1, 3) := by decide +kernel
theorem dX8_sumOfLots_26 : decode cX8_sumOfLots 26 = .ok (.goto (-22), 3) := by decide +kernel
theorem dX8_sumOfLots_29 : decode cX8_sumOfLots 29 = .ok (.iload_n 1, 1) := by decide +kernel
theorem dX8_sumOfLots_30 : decode cX8_sumOfLots 30 = .ok (.ireturn, 1) := by decide +kernel
theorem dX8_sumOfHarvests_0 : decode cX8_sumOfHarvests 0 = .ok (.iconst 0, 1) := by decide +kernel
theorem dX8_sumOfHarvests_1 : decode cX8_sumOfHarvests 1 = .ok (.istore_n 1, 1) := by decide +kernel
theorem dX8_sumOfHarvests_2 : decode cX8_sumOfHarvests 2 = .ok (.iconst 0, 1) := by decide +kernel
theorem dX8_sumOfHarvests_3 : decode cX8_sumOfHarvests 3 = .ok (.istore_n 2, 1) := by decide +kernel
theorem dX8_sumOfHarvests_4 : decode cX8_sumOfHarvests 4 = .ok (.iload_n 2, 1) := by decide +kernel
theorem dX8_sumOfHarvests_5 : decode cX8_sumOfHarvests 5 = .ok (.aload_n 0, 1) := by decide +kernel
theorem dX8_sumOfHarvests_6 : decode cX8_sumOfHarvests 6 = .ok (.getfield 9, 3) := by decide +kernel
theorem dX8_sumOfHarvests_9 : decode cX8_sumOfHarvests 9 = .ok (.iconst 1, 1) := by decide +kernel
theorem dX8_sumOfHarvests_10 : decode cX8_sumOfHarvests 10 = .ok (.iaload, 1) := by decide +kernel
theorem dX8_sumOfHarvests_11 : decode cX8_sumOfHarvests 11 = .ok (.if_icmp .ge 18, 3) := by decide +kernel
theorem dX8_sumOfHarvests_14 : decode cX8_sumOfHarvests 14 = .ok (.iload_n 1, 1) := by decide +kernel
theorem dX8_sumOfHarvests_15 : decode cX8_sumOfHarvests 15 = .ok (.aload_n 0, 1) := by decide +kernel
theorem dX8_sumOfHarvests_16 : decode cX8_sumOfHarvests 16 = .ok (.iload_n 2, 1) := by decide +kernel
theorem dX8_sumOfHarvests_17 : decode cX8_sumOfHarvests 17 = .ok (.iconst 3, 1) := by decide +kernel
theorem dX8_sumOfHarvests_18 : decode cX8_sumOfHarvests 18 = .ok (.invokevirtual 144, 3) := by decide +kernel
theorem dX8_sumOfHarvests_21 : decode cX8_sumOfHarvests 21 = .ok (.iadd, 1) := by decide +kernel
theorem dX8_sumOfHarvests_22 : decode cX8_sumOfHarvests 22 = .ok (.istore_n 1, 1) := by decide +kernel
theorem dX8_sumOfHarvests_23 : decode cX8_sumOfHarvests 23 = .ok (.iinc 2 1, 3) := by decide +kernel
theorem dX8_sumOfHarvests_26 : decode cX8_sumOfHarvests 26 = .ok (.goto (-22), 3) := by decide +kernel
theorem dX8_sumOfHarvests_29 : decode cX8_sumOfHarvests 29 = .ok (.iload_n 1, 1) := by decide +kernel
theorem dX8_sumOfHarvests_30 : decode cX8_sumOfHarvests 30 = .ok (.ireturn, 1) := by decide +kernel
theorem dX8_sumOfBottles_0 : decode cX8_sumOfBottles 0 = .ok (.iconst 0, 1) := by decide +kernel
theorem dX8_sumOfBottles_1 : decode cX8_sumOfBottles 1 = .ok (.istore_n 2, 1) := by decide +kernel
theorem dX8_sumOfBottles_2 : decode cX8_sumOfBottles 2 = .ok (.iconst 0, 1) := by decide +kernel
theorem dX8_sumOfBottles_3 : decode cX8_sumOfBottles 3 = .ok (.istore_n 3, 1) := by decide +kernel
theorem dX8_sumOfBottles_4 : decode cX8_sumOfBottles 4 = .ok (.iload_n 3, 1) := by decide +kernel
theorem dX8_sumOfBottles_5 : decode cX8_sumOfBottles 5 = .ok (.aload_n 0, 1) := by decide +kernel
theorem dX8_sumOfBottles_6 : decode cX8_sumOfBottles 6 = .ok (.getfield 9, 3) := by decide +kernel
theorem dX8_sumOfBottles_9 : decode cX8_sumOfBottles 9 = .ok (.iconst 2, 1) := by decide +kernel
theorem dX8_sumOfBottles_10 : decode cX8_sumOfBottles 10 = .ok (.iaload, 1) := by decide +kernel
theorem dX8_sumOfBottles_11 : decode cX8_sumOfBottles 11 = .ok (.if_icmp .ge 18, 3) := by decide +kernel
theorem dX8_sumOfBottles_14 : decode cX8_sumOfBottles 14 = .ok (.iload_n 2, 1) := by decide +kernel
theorem dX8_sumOfBottles_15 : decode cX8_sumOfBottles 15 = .ok (.aload_n 0, 1) := by decide +kernel
theorem dX8_sumOfBottles_16 : decode cX8_sumOfBottles 16 = .ok (.iload_n 3, 1) := by decide +kernel
theorem dX8_sumOfBottles_17 : decode cX8_sumOfBottles 17 = .ok (.iload_n 1, 1) := by decide +kernel
theorem dX8_sumOfBottles_18 : decode cX8_sumOfBottles 18 = .ok (.invokevirtual 169, 3) := by decide +kernel
theorem dX8_sumOfBottles_21 : decode cX8_sumOfBottles 21 = .ok (.iadd, 1) := by decide +kernel
theorem dX8_sumOfBottles_22 : decode cX8_sumOfBottles 22 = .ok (.istore_n 2, 1) := by decide +kernel
theorem dX8_sumOfBottles_23 : decode cX8_sumOfBottles 23 = .ok (.iinc 3 1, 3) := by decide +kernel
theorem dX8_sumOfBottles_26 : decode cX8_sumOfBottles 26 = .ok (.goto (-22), 3) := by decide +kernel
theorem dX8_sumOfBottles_29 : decode cX8_sumOfBottles 29 = .ok (.iload_n 2, 1) := by decide +kernel
theorem dX8_sumOfBottles_30 : decode cX8_sumOfBottles 30 = .ok (.ireturn, 1) := by decide +kernel
theorem dX8_sumHeld_0 : decode cX8_sumHeld 0 = .ok (.iconst 0, 1) := by decide +kernel
theorem dX8_sumHeld_1 : decode cX8_sumHeld 1 = .ok (.istore_n 1, 1) := by decide +kernel
theorem dX8_sumHeld_2 : decode cX8_sumHeld 2 = .ok (.sipush 776, 3) := by decide +kernel
theorem dX8_sumHeld_5 : decode cX8_sumHeld 5 = .ok (.istore_n 2, 1) := by decide +kernel
theorem dX8_sumHeld_6 : decode cX8_sumHeld 6 = .ok (.iload_n 2, 1) := by decide +kernel
theorem dX8_sumHeld_7 : decode cX8_sumHeld 7 = .ok (.sipush 904, 3) := by decide +kernel
theorem dX8_sumHeld_10 : decode cX8_sumHeld 10 = .ok (.if_icmp .ge 18, 3) := by decide +kernel
theorem dX8_sumHeld_13 : decode cX8_sumHeld 13 = .ok (.iload_n 1, 1) := by decide +kernel
theorem dX8_sumHeld_14 : decode cX8_sumHeld 14 = .ok (.aload_n 0, 1) := by decide +kernel
theorem dX8_sumHeld_15 : decode cX8_sumHeld 15 = .ok (.getfield 9, 3) := by decide +kernel
theorem dX8_sumHeld_18 : decode cX8_sumHeld 18 = .ok (.iload_n 2, 1) := by decide +kernel
theorem dX8_sumHeld_19 : decode cX8_sumHeld 19 = .ok (.iaload, 1) := by decide +kernel
theorem dX8_sumHeld_20 : decode cX8_sumHeld 20 = .ok (.iadd, 1) := by decide +kernel
theorem dX8_sumHeld_21 : decode cX8_sumHeld 21 = .ok (.istore_n 1, 1) := by decide +kernel
theorem dX8_sumHeld_22 : decode cX8_sumHeld 22 = .ok (.iinc 2 1, 3) := by decide +kernel
theorem dX8_sumHeld_25 : decode cX8_sumHeld 25 = .ok (.goto (-19), 3) := by decide +kernel
theorem dX8_sumHeld_28 : decode cX8_sumHeld 28 = .ok (.iload_n 1, 1) := by decide +kernel
theorem dX8_sumHeld_29 : decode cX8_sumHeld 29 = .ok (.ireturn, 1) := by decide +kernel
theorem dX8_account_0 : decode cX8_account 0 = .ok (.aload_n 0, 1) := by decide +kernel
theorem dX8_account_1 : decode cX8_account 1 = .ok (.iconst 0, 1) := by decide +kernel
theorem dX8_account_2 : decode cX8_account 2 = .ok (.putfield 42, 3) := by decide +kernel
theorem dX8_account_5 : decode cX8_account 5 = .ok (.iload_n 1, 1) := by decide +kernel
theorem dX8_account_6 : decode cX8_account 6 = .ok (.tableswitch 118 0 11 #[62, 67, 72, 80, 87, 93, 98, 98, 98, 98, 108, 113], 62) := by decide +kernel
theorem dX8_account_68 : decode cX8_account 68 = .ok (.aload_n 0, 1) := by decide +kernel
theorem dX8_account_69 : decode cX8_account 69 = .ok (.invokevirtual 217, 3) := by decide +kernel
theorem dX8_account_72 : decode cX8_account 72 = .ok (.ireturn, 1) := by decide +kernel
theorem dX8_account_73 : decode cX8_account 73 = .ok (.aload_n 0, 1) := by decide +kernel
theorem dX8_account_74 : decode cX8_account 74 = .ok (.invokevirtual 220, 3) := by decide +kernel
theorem dX8_account_77 : decode cX8_account 77 = .ok (.ireturn, 1) := by decide +kernel
theorem dX8_account_78 : decode cX8_account 78 = .ok (.iconst 3, 1) := by decide +kernel
theorem dX8_account_79 : decode cX8_account 79 = .ok (.aload_n 0, 1) := by decide +kernel
theorem dX8_account_80 : decode cX8_account 80 = .ok (.iconst 1, 1) := by decide +kernel
theorem dX8_account_81 : decode cX8_account 81 = .ok (.invokevirtual 223, 3) := by decide +kernel
theorem dX8_account_84 : decode cX8_account 84 = .ok (.imul, 1) := by decide +kernel
theorem dX8_account_85 : decode cX8_account 85 = .ok (.ireturn, 1) := by decide +kernel
theorem dX8_account_86 : decode cX8_account 86 = .ok (.aload_n 0, 1) := by decide +kernel
theorem dX8_account_87 : decode cX8_account 87 = .ok (.getfield 9, 3) := by decide +kernel
theorem dX8_account_90 : decode cX8_account 90 = .ok (.iconst 4, 1) := by decide +kernel
theorem dX8_account_91 : decode cX8_account 91 = .ok (.iaload, 1) := by decide +kernel
theorem dX8_account_92 : decode cX8_account 92 = .ok (.ireturn, 1) := by decide +kernel
theorem dX8_account_93 : decode cX8_account 93 = .ok (.aload_n 0, 1) := by decide +kernel
theorem dX8_account_94 : decode cX8_account 94 = .ok (.iconst 2, 1) := by decide +kernel
theorem dX8_account_95 : decode cX8_account 95 = .ok (.invokevirtual 223, 3) := by decide +kernel
theorem dX8_account_98 : decode cX8_account 98 = .ok (.ireturn, 1) := by decide +kernel
theorem dX8_account_99 : decode cX8_account 99 = .ok (.aload_n 0, 1) := by decide +kernel
theorem dX8_account_100 : decode cX8_account 100 = .ok (.invokevirtual 226, 3) := by decide +kernel
theorem dX8_account_103 : decode cX8_account 103 = .ok (.ireturn, 1) := by decide +kernel
theorem dX8_account_104 : decode cX8_account 104 = .ok (.aload_n 0, 1) := by decide +kernel
theorem dX8_account_105 : decode cX8_account 105 = .ok (.getfield 9, 3) := by decide +kernel
theorem dX8_account_108 : decode cX8_account 108 = .ok (.iload_n 1, 1) := by decide +kernel
theorem dX8_account_109 : decode cX8_account 109 = .ok (.bipush 6, 2) := by decide +kernel
theorem dX8_account_111 : decode cX8_account 111 = .ok (.isub, 1) := by decide +kernel
theorem dX8_account_112 : decode cX8_account 112 = .ok (.iaload, 1) := by decide +kernel
theorem dX8_account_113 : decode cX8_account 113 = .ok (.ireturn, 1) := by decide +kernel
theorem dX8_account_114 : decode cX8_account 114 = .ok (.aload_n 0, 1) := by decide +kernel
theorem dX8_account_115 : decode cX8_account 115 = .ok (.getfield 52, 3) := by decide +kernel
theorem dX8_account_118 : decode cX8_account 118 = .ok (.ireturn, 1) := by decide +kernel
theorem dX8_account_119 : decode cX8_account 119 = .ok (.aload_n 0, 1) := by decide +kernel
theorem dX8_account_120 : decode cX8_account 120 = .ok (.getfield 115, 3) := by decide +kernel
theorem dX8_account_123 : decode cX8_account 123 = .ok (.ireturn, 1) := by decide +kernel
theorem dX8_account_124 : decode cX8_account 124 = .ok (.aload_n 0, 1) := by decide +kernel
theorem dX8_account_125 : decode cX8_account 125 = .ok (.iconst 1, 1) := by decide +kernel
theorem dX8_account_126 : decode cX8_account 126 = .ok (.invokevirtual 48, 3) := by decide +kernel
theorem dX8_account_129 : decode cX8_account 129 = .ok (.ireturn, 1) := by decide +kernel
theorem dX8_feed_0 : decode cX8_feed 0 = .ok (.aload_n 0, 1) := by decide +kernel
theorem dX8_feed_1 : decode cX8_feed 1 = .ok (.iconst 0, 1) := by decide +kernel
theorem dX8_feed_2 : decode cX8_feed 2 = .ok (.putfield 42, 3) := by decide +kernel
theorem dX8_feed_5 : decode cX8_feed 5 = .ok (.aload_n 0, 1) := by decide +kernel
theorem dX8_feed_6 : decode cX8_feed 6 = .ok (.getfield 115, 3) := by decide +kernel
theorem dX8_feed_9 : decode cX8_feed 9 = .ok (.bipush 40, 2) := by decide +kernel
theorem dX8_feed_11 : decode cX8_feed 11 = .ok (.if_icmp .ne 9, 3) := by decide +kernel
theorem dX8_feed_14 : decode cX8_feed 14 = .ok (.aload_n 0, 1) := by decide +kernel
theorem dX8_feed_15 : decode cX8_feed 15 = .ok (.iconst 1, 1) := by decide +kernel
theorem dX8_feed_16 : decode cX8_feed 16 = .ok (.invokevirtual 48, 3) := by decide +kernel
theorem dX8_feed_19 : decode cX8_feed 19 = .ok (.ireturn, 1) := by decide +kernel
theorem dX8_feed_20 : decode cX8_feed 20 = .ok (.aload_n 0, 1) := by decide +kernel
theorem dX8_feed_21 : decode cX8_feed 21 = .ok (.getfield 23, 3) := by decide +kernel
theorem dX8_feed_24 : decode cX8_feed 24 = .ok (.aload_n 0, 1) := by decide +kernel
theorem dX8_feed_25 : decode cX8_feed 25 = .ok (.getfield 115, 3) := by decide +kernel
theorem dX8_feed_28 : decode cX8_feed 28 = .ok (.iload_n 1, 1) := by decide +kernel
theorem dX8_feed_29 : decode cX8_feed 29 = .ok (.castore, 1) := by decide +kernel
theorem dX8_feed_30 : decode cX8_feed 30 = .ok (.aload_n 0, 1) := by decide +kernel
theorem dX8_feed_31 : decode cX8_feed 31 = .ok (.dup, 1) := by decide +kernel
theorem dX8_feed_32 : decode cX8_feed 32 = .ok (.getfield 115, 3) := by decide +kernel
theorem dX8_feed_35 : decode cX8_feed 35 = .ok (.iconst 1, 1) := by decide +kernel
theorem dX8_feed_36 : decode cX8_feed 36 = .ok (.iadd, 1) := by decide +kernel
theorem dX8_feed_37 : decode cX8_feed 37 = .ok (.putfield 115, 3) := by decide +kernel
theorem dX8_feed_40 : decode cX8_feed 40 = .ok (.aload_n 0, 1) := by decide +kernel
theorem dX8_feed_41 : decode cX8_feed 41 = .ok (.getfield 115, 3) := by decide +kernel
theorem dX8_feed_44 : decode cX8_feed 44 = .ok (.ireturn, 1) := by decide +kernel
theorem dX8_errorPosition_0 : decode cX8_errorPosition 0 = .ok (.aload_n 0, 1) := by decide +kernel
theorem dX8_errorPosition_1 : decode cX8_errorPosition 1 = .ok (.aload_n 0, 1) := by decide +kernel
theorem dX8_errorPosition_2 : decode cX8_errorPosition 2 = .ok (.getfield 19, 3) := by decide +kernel
theorem dX8_errorPosition_5 : decode cX8_errorPosition 5 = .ok (.iconst (-1), 1) := by decide +kernel
theorem dX8_errorPosition_6 : decode cX8_errorPosition 6 = .ok (.if_icmp .ne 7, 3) := by decide +kernel
theorem dX8_errorPosition_9 : decode cX8_errorPosition 9 = .ok (.iconst 1, 1) := by decide +kernel
theorem dX8_errorPosition_10 : decode cX8_errorPosition 10 = .ok (.goto 4, 3) := by decide +kernel
theorem dX8_errorPosition_13 : decode cX8_errorPosition 13 = .ok (.iconst 0, 1) := by decide +kernel
theorem dX8_errorPosition_14 : decode cX8_errorPosition 14 = .ok (.putfield 42, 3) := by decide +kernel
theorem dX8_errorPosition_17 : decode cX8_errorPosition 17 = .ok (.aload_n 0, 1) := by decide +kernel
theorem dX8_errorPosition_18 : decode cX8_errorPosition 18 = .ok (.getfield 42, 3) := by decide +kernel
theorem dX8_errorPosition_21 : decode cX8_errorPosition 21 = .ok (.ifCond .ne 10, 3) := by decide +kernel
theorem dX8_errorPosition_24 : decode cX8_errorPosition 24 = .ok (.aload_n 0, 1) := by decide +kernel
theorem dX8_errorPosition_25 : decode cX8_errorPosition 25 = .ok (.getfield 19, 3) := by decide +kernel
theorem dX8_errorPosition_28 : decode cX8_errorPosition 28 = .ok (.goto 4, 3) := by decide +kernel
theorem dX8_errorPosition_31 : decode cX8_errorPosition 31 = .ok (.iconst 0, 1) := by decide +kernel
theorem dX8_errorPosition_32 : decode cX8_errorPosition 32 = .ok (.ireturn, 1) := by decide +kernel
theorem dX8_undo_0 : decode cX8_undo 0 = .ok (.aload_n 0, 1) := by decide +kernel
theorem dX8_undo_1 : decode cX8_undo 1 = .ok (.iconst 0, 1) := by decide +kernel
theorem dX8_undo_2 : decode cX8_undo 2 = .ok (.putfield 42, 3) := by decide +kernel
theorem dX8_undo_5 : decode cX8_undo 5 = .ok (.aload_n 0, 1) := by decide +kernel
theorem dX8_undo_6 : decode cX8_undo 6 = .ok (.getfield 52, 3) := by decide +kernel
theorem dX8_undo_9 : decode cX8_undo 9 = .ok (.ifCond .ne 9, 3) := by decide +kernel
theorem dX8_undo_12 : decode cX8_undo 12 = .ok (.aload_n 0, 1) := by decide +kernel
theorem dX8_undo_13 : decode cX8_undo 13 = .ok (.iconst 1, 1) := by decide +kernel
theorem dX8_undo_14 : decode cX8_undo 14 = .ok (.invokevirtual 48, 3) := by decide +kernel
theorem dX8_undo_17 : decode cX8_undo 17 = .ok (.ireturn, 1) := by decide +kernel
theorem dX8_undo_18 : decode cX8_undo 18 = .ok (.aload_n 0, 1) := by decide +kernel
theorem dX8_undo_19 : decode cX8_undo 19 = .ok (.dup, 1) := by decide +kernel
theorem dX8_undo_20 : decode cX8_undo 20 = .ok (.getfield 52, 3) := by decide +kernel
theorem dX8_undo_23 : decode cX8_undo 23 = .ok (.iconst 1, 1) := by decide +kernel
theorem dX8_undo_24 : decode cX8_undo 24 = .ok (.isub, 1) := by decide +kernel
theorem dX8_undo_25 : decode cX8_undo 25 = .ok (.putfield 52, 3) := by decide +kernel
theorem dX8_undo_28 : decode cX8_undo 28 = .ok (.iconst 0, 1) := by decide +kernel
theorem dX8_undo_29 : decode cX8_undo 29 = .ok (.istore_n 1, 1) := by decide +kernel
theorem dX8_undo_30 : decode cX8_undo 30 = .ok (.iload_n 1, 1) := by decide +kernel
theorem dX8_undo_31 : decode cX8_undo 31 = .ok (.sipush 1032, 3) := by decide +kernel
theorem dX8_undo_34 : decode cX8_undo 34 = .ok (.if_icmp .ge 30, 3) := by decide +kernel
theorem dX8_undo_37 : decode cX8_undo 37 = .ok (.aload_n 0, 1) := by decide +kernel
theorem dX8_undo_38 : decode cX8_undo 38 = .ok (.getfield 9, 3) := by decide +kernel
theorem dX8_undo_41 : decode cX8_undo 41 = .ok (.iload_n 1, 1) := by decide +kernel
theorem dX8_undo_42 : decode cX8_undo 42 = .ok (.aload_n 0, 1) := by decide +kernel
theorem dX8_undo_43 : decode cX8_undo 43 = .ok (.getfield 13, 3) := by decide +kernel
theorem dX8_undo_46 : decode cX8_undo 46 = .ok (.sipush 1032, 3) := by decide +kernel
theorem dX8_undo_49 : decode cX8_undo 49 = .ok (.aload_n 0, 1) := by decide +kernel
theorem dX8_undo_50 : decode cX8_undo 50 = .ok (.getfield 52, 3) := by decide +kernel
theorem dX8_undo_53 : decode cX8_undo 53 = .ok (.imul, 1) := by decide +kernel
theorem dX8_undo_54 : decode cX8_undo 54 = .ok (.iload_n 1, 1) := by decide +kernel
theorem dX8_undo_55 : decode cX8_undo 55 = .ok (.iadd, 1) := by decide +kernel
theorem dX8_undo_56 : decode cX8_undo 56 = .ok (.iaload, 1) := by decide +kernel
theorem dX8_undo_57 : decode cX8_undo 57 = .ok (.iastore, 1) := by decide +kernel
theorem dX8_undo_58 : decode cX8_undo 58 = .ok (.iinc 1 1, 3) := by decide +kernel
theorem dX8_undo_61 : decode cX8_undo 61 = .ok (.goto (-31), 3) := by decide +kernel
theorem dX8_undo_64 : decode cX8_undo 64 = .ok (.aload_n 0, 1) := by decide +kernel
theorem dX8_undo_65 : decode cX8_undo 65 = .ok (.getfield 52, 3) := by decide +kernel
theorem dX8_undo_68 : decode cX8_undo 68 = .ok (.ireturn, 1) := by decide +kernel
theorem dX8_save_0 : decode cX8_save 0 = .ok (.aload_n 0, 1) := by decide +kernel
theorem dX8_save_1 : decode cX8_save 1 = .ok (.iconst 0, 1) := by decide +kernel
theorem dX8_save_2 : decode cX8_save 2 = .ok (.putfield 42, 3) := by decide +kernel
theorem dX8_save_5 : decode cX8_save 5 = .ok (.aload_n 0, 1) := by decide +kernel
theorem dX8_save_6 : decode cX8_save 6 = .ok (.iconst 1, 1) := by decide +kernel
theorem dX8_save_7 : decode cX8_save 7 = .ok (.putfield 229, 3) := by decide +kernel
theorem dX8_save_10 : decode cX8_save 10 = .ok (.iconst 0, 1) := by decide +kernel
theorem dX8_save_11 : decode cX8_save 11 = .ok (.istore_n 1, 1) := by decide +kernel
theorem dX8_save_12 : decode cX8_save 12 = .ok (.iload_n 1, 1) := by decide +kernel
theorem dX8_save_13 : decode cX8_save 13 = .ok (.sipush 1032, 3) := by decide +kernel
theorem dX8_save_16 : decode cX8_save 16 = .ok (.if_icmp .ge 21, 3) := by decide +kernel
theorem dX8_save_19 : decode cX8_save 19 = .ok (.aload_n 0, 1) := by decide +kernel
theorem dX8_save_20 : decode cX8_save 20 = .ok (.getfield 16, 3) := by decide +kernel
theorem dX8_save_23 : decode cX8_save 23 = .ok (.iload_n 1, 1) := by decide +kernel
theorem dX8_save_24 : decode cX8_save 24 = .ok (.aload_n 0, 1) := by decide +kernel
theorem dX8_save_25 : decode cX8_save 25 = .ok (.getfield 9, 3) := by decide +kernel
theorem dX8_save_28 : decode cX8_save 28 = .ok (.iload_n 1, 1) := by decide +kernel
theorem dX8_save_29 : decode cX8_save 29 = .ok (.iaload, 1) := by decide +kernel
theorem dX8_save_30 : decode cX8_save 30 = .ok (.iastore, 1) := by decide +kernel
theorem dX8_save_31 : decode cX8_save 31 = .ok (.iinc 1 1, 3) := by decide +kernel
theorem dX8_save_34 : decode cX8_save 34 = .ok (.goto (-22), 3) := by decide +kernel
theorem dX8_save_37 : decode cX8_save 37 = .ok (.aload_n 0, 1) := by decide +kernel
theorem dX8_save_38 : decode cX8_save 38 = .ok (.getfield 9, 3) := by decide +kernel
theorem dX8_save_41 : decode cX8_save 41 = .ok (.iconst 0, 1) := by decide +kernel
theorem dX8_save_42 : decode cX8_save 42 = .ok (.iaload, 1) := by decide +kernel
theorem dX8_save_43 : decode cX8_save 43 = .ok (.ireturn, 1) := by decide +kernel
theorem dX8_restore_0 : decode cX8_restore 0 = .ok (.aload_n 0, 1) := by decide +kernel
theorem dX8_restore_1 : decode cX8_restore 1 = .ok (.iconst 0, 1) := by decide +kernel
theorem dX8_restore_2 : decode cX8_restore 2 = .ok (.putfield 42, 3) := by decide +kernel
theorem dX8_restore_5 : decode cX8_restore 5 = .ok (.aload_n 0, 1) := by decide +kernel
theorem dX8_restore_6 : decode cX8_restore 6 = .ok (.getfield 229, 3) := by decide +kernel
theorem dX8_restore_9 : decode cX8_restore 9 = .ok (.ifCond .ne 9, 3) := by decide +kernel
theorem dX8_restore_12 : decode cX8_restore 12 = .ok (.aload_n 0, 1) := by decide +kernel
theorem dX8_restore_13 : decode cX8_restore 13 = .ok (.iconst 1, 1) := by decide +kernel
theorem dX8_restore_14 : decode cX8_restore 14 = .ok (.invokevirtual 48, 3) := by decide +kernel
theorem dX8_restore_17 : decode cX8_restore 17 = .ok (.ireturn, 1) := by decide +kernel
theorem dX8_restore_18 : decode cX8_restore 18 = .ok (.iconst 0, 1) := by decide +kernel
theorem dX8_restore_19 : decode cX8_restore 19 = .ok (.istore_n 1, 1) := by decide +kernel
theorem dX8_restore_20 : decode cX8_restore 20 = .ok (.iload_n 1, 1) := by decide +kernel
theorem dX8_restore_21 : decode cX8_restore 21 = .ok (.sipush 1032, 3) := by decide +kernel
theorem dX8_restore_24 : decode cX8_restore 24 = .ok (.if_icmp .ge 21, 3) := by decide +kernel
theorem dX8_restore_27 : decode cX8_restore 27 = .ok (.aload_n 0, 1) := by decide +kernel
theorem dX8_restore_28 : decode cX8_restore 28 = .ok (.getfield 9, 3) := by decide +kernel
theorem dX8_restore_31 : decode cX8_restore 31 = .ok (.iload_n 1, 1) := by decide +kernel
theorem dX8_restore_32 : decode cX8_restore 32 = .ok (.aload_n 0, 1) := by decide +kernel
theorem dX8_restore_33 : decode cX8_restore 33 = .ok (.getfield 16, 3) := by decide +kernel
theorem dX8_restore_36 : decode cX8_restore 36 = .ok (.iload_n 1, 1) := by decide +kernel
theorem dX8_restore_37 : decode cX8_restore 37 = .ok (.iaload, 1) := by decide +kernel
theorem dX8_restore_38 : decode cX8_restore 38 = .ok (.iastore, 1) := by decide +kernel
theorem dX8_restore_39 : decode cX8_restore 39 = .ok (.iinc 1 1, 3) := by decide +kernel
theorem dX8_restore_42 : decode cX8_restore 42 = .ok (.goto (-22), 3) := by decide +kernel
theorem dX8_restore_45 : decode cX8_restore 45 = .ok (.aload_n 0, 1) := by decide +kernel
theorem dX8_restore_46 : decode cX8_restore 46 = .ok (.iconst 0, 1) := by decide +kernel
theorem dX8_restore_47 : decode cX8_restore 47 = .ok (.putfield 52, 3) := by decide +kernel
theorem dX8_restore_50 : decode cX8_restore 50 = .ok (.aload_n 0, 1) := by decide +kernel
theorem dX8_restore_51 : decode cX8_restore 51 = .ok (.getfield 9, 3) := by decide +kernel
theorem dX8_restore_54 : decode cX8_restore 54 = .ok (.iconst 0, 1) := by decide +kernel
theorem dX8_restore_55 : decode cX8_restore 55 = .ok (.iaload, 1) := by decide +kernel
theorem dX8_restore_56 : decode cX8_restore 56 = .ok (.ireturn, 1) := by decide +kernel
end
section
/-! calls of nest mates that may throw: from the printed laws (kit/laws/EXCEPTIONS.to-paste) -/
section
variable {p : Program} {l : Launch} {e : Env} {R : Room} {s : State} {m : MethodId} {args : Array Value} {below : List Frame} {meth : Method} {c : Code} {H : Heap} {locs : List Loc} {cells slots : Nat}
variable {T : State}
theorem vx_callVN (X : Stand p l e R s m args below meth c T locs cells slots) (hexec : p.tables.exec = Jvm.exec) {own C : String} {index : Nat} {host : String} {y : MethodName} {bytes : ByteArray} {maxL : Nat} {ret : Option FieldType}
    (hown : s.vm.findClass own = some m.cls) (hlink : (Cond.methodLinkNest own index y host).before args s = true) (hinst : (Cond.instanceMethod y).before args s = true) (hsel : (Cond.selects C y y).before args s = true)
    (hcode : (Cond.code y bytes maxL ret).before args s = true) (hy : y.cls ≠ "java/lang/invoke/MethodHandle" ∧ y.cls ≠ "java/lang/invoke/VarHandle")
    {W : Nat} {Pre : Pt → Array Value → Prop} {Post : Pt → Array Value → Option Value → Pt → Prop} {PostX : Pt → Array Value → Addr → Pt → Prop} (hK : vx_Back l R p e below s args y 3 W Pre Post PostX)
    {b : Addr} {cellB : Cell} (hcell : T.heap[b]? = some cellB) (hobj : cellB.vm.isStatics = false) (hcls : s.vm.findClass C = some cellB.cls)
    {g : JFrame} (hg : g.method = m) (hsize : g.locals.size = c.maxLocals) {argsL rest : List Value} (hlen : ∀ sig, parseMethodDescriptor y.desc = some sig → argsL.length = sig.parameters.length)
    (hstack : g.stack = argsL.reverse ++ .ref b :: rest) (hW : 2 * g.monitorRoom + (rest.map fun v => v.category).sum ≤ W) (hdg : decode c.code g.pc = .ok (.invokevirtual index, 3))
    (hpre : ∀ vm₁, s.WarmedH vm₁ → Pre ⟨T.setVm vm₁, locs, cells, slots⟩ (Value.ref b :: argsL).toArray) :
    (∃ (v : Option Value) (vm₁ : Vm) (B : Pt), s.WarmedH vm₁ ∧ Stand p l e R s m args below meth c B.U B.locs B.cells B.slots ∧ Post ⟨T.setVm vm₁, locs, cells, slots⟩ (Value.ref b :: argsL).toArray v B ∧
      ∀ target, Steps p.tables e below (B.U.setTop { g with pc := g.pc + 3, stack := v.toList ++ rest }) target → Steps p.tables e below (T.setTop g) target) ∨
    (∃ (q : Addr) (vm₁ : Vm) (B : Pt), s.WarmedH vm₁ ∧ Stand p l e R s m args below meth c B.U B.locs B.cells B.slots ∧ PostX ⟨T.setVm vm₁, locs, cells, slots⟩ (Value.ref b :: argsL).toArray q B ∧
      Steps p.tables e below (T.setTop g) ((B.U.setTop { g with stack := rest }).pushFrame (.throwing q))) := by
  obtain ⟨mk, methM, hnamed, hmethM, hstM, habM⟩ := Cond.instanceMethod_spec hinst
  obtain ⟨methM', cM, hmethM', -, -, -, -, -, -, hsigM⟩ := Cond.code_spec hnamed hcode
  cases hmethM.symm.trans hmethM'
  obtain ⟨c2, r2, m2, q1, q2, q3, q4, kP, hkP, hkPi⟩ := Cond.selects_spec hsel
  cases hcls.symm.trans q1
  cases (State.methodFound?_of_named hnamed hy).symm.trans q2
  cases hnamed.symm.trans q3
  have hselP : selectMethod e.platform s.vm cellB.cls mk = .method mk := by rw [Launch.admits_selectMethod X.admits]; exact q4
  obtain ⟨vm₁, X₁, hstep₁⟩ := X.invokevirtualNest hexec hown hlink hnamed hmethM hstM hkP hkPi hy (a := b) (cell := cellB) hcell
    (fun z h => by rw [h] at hobj; cases hobj) hselP hmethM habM hkP hkPi (g := g) hg (argsL := argsL) (rest := rest) (hlen _ hsigM) hstack hdg
  rcases hK m meth c ⟨T.setVm vm₁, locs, cells, slots⟩ { g with stack := rest } (.invokevirtual index) mk (Value.ref b :: argsL).toArray X₁ hg hsize hdg hW (X₁.named hnamed) (hpre vm₁ X₁.warmed) with ⟨v, B, X', hpost, hsteps⟩ | ⟨q, B, X', hpost, hsteps⟩
  · exact Or.inl ⟨v, vm₁, B, X₁.warmed, X', hpost, fun target h => hstep₁ _ fun acts => by rw [doInvoke_state]; exact hsteps.trans h⟩
  · exact Or.inr ⟨q, vm₁, B, X₁.warmed, X', hpost, hstep₁ _ fun acts => by rw [doInvoke_state]; exact hsteps⟩
theorem vx_callSN (X : Stand p l e R s m args below meth c T locs cells slots) (hexec : p.tables.exec = Jvm.exec) {own : String} {index : Nat} {host : String} {y : MethodName} {bytes : ByteArray} {maxL : Nat} {ret : Option FieldType}
    (hown : s.vm.findClass own = some m.cls) (hlink : (Cond.methodLinkNest own index y host).before args s = true) (hstat : (Cond.static y).before args s = true) (hinit : (Cond.initialized y.cls).before args s = true)
    (hcode : (Cond.code y bytes maxL ret).before args s = true) (hy : y.cls ≠ "java/lang/invoke/MethodHandle" ∧ y.cls ≠ "java/lang/invoke/VarHandle")
    {W : Nat} {Pre : Pt → Array Value → Prop} {Post : Pt → Array Value → Option Value → Pt → Prop} {PostX : Pt → Array Value → Addr → Pt → Prop} (hK : vx_Back l R p e below s args y 3 W Pre Post PostX)
    {g : JFrame} (hg : g.method = m) (hsize : g.locals.size = c.maxLocals) {argsL rest : List Value} (hlen : ∀ sig, parseMethodDescriptor y.desc = some sig → argsL.length = sig.parameters.length)
    (hstack : g.stack = argsL.reverse ++ rest) (hW : 2 * g.monitorRoom + (rest.map fun v => v.category).sum ≤ W) (hdg : decode c.code g.pc = .ok (.invokestatic index, 3))
    (hpre : ∀ vm₁, s.WarmedH vm₁ → Pre ⟨T.setVm vm₁, locs, cells, slots⟩ argsL.toArray) :
    (∃ (v : Option Value) (vm₁ : Vm) (B : Pt), s.WarmedH vm₁ ∧ Stand p l e R s m args below meth c B.U B.locs B.cells B.slots ∧ Post ⟨T.setVm vm₁, locs, cells, slots⟩ argsL.toArray v B ∧
      ∀ target, Steps p.tables e below (B.U.setTop { g with pc := g.pc + 3, stack := v.toList ++ rest }) target → Steps p.tables e below (T.setTop g) target) ∨
    (∃ (q : Addr) (vm₁ : Vm) (B : Pt), s.WarmedH vm₁ ∧ Stand p l e R s m args below meth c B.U B.locs B.cells B.slots ∧ PostX ⟨T.setVm vm₁, locs, cells, slots⟩ argsL.toArray q B ∧
      Steps p.tables e below (T.setTop g) ((B.U.setTop { g with stack := rest }).pushFrame (.throwing q))) := by
  obtain ⟨mk, hnamed⟩ := Cond.code_named hcode
  obtain ⟨methM, cM, hmethM, -, -, -, -, -, -, hsigM⟩ := Cond.code_spec hnamed hcode
  have hstatic : methM.isStatic = true := Cond.static_spec hnamed hmethM hstat
  obtain ⟨kP, hkP, -⟩ := className_of_methodNamed hnamed
  have hinitP : kP.init = .initialized := Cond.initialized_spec (findClass_of_methodNamed hnamed) hkP hinit
  obtain ⟨vm₁, X₁, hstep₁⟩ := X.invokestaticNest hexec hown hlink hnamed hmethM hstatic hkP hinitP hy (g := g) hg (argsL := argsL) (rest := rest) (hlen _ hsigM) hstack hdg
  rcases hK m meth c ⟨T.setVm vm₁, locs, cells, slots⟩ { g with stack := rest } (.invokestatic index) mk argsL.toArray X₁ hg hsize hdg hW (X₁.named hnamed) (hpre vm₁ X₁.warmed) with ⟨v, B, X', hpost, hsteps⟩ | ⟨q, B, X', hpost, hsteps⟩
  · exact Or.inl ⟨v, vm₁, B, X₁.warmed, X', hpost, fun target h => hstep₁ _ fun acts => by rw [doInvoke_state]; exact hsteps.trans h⟩
  · exact Or.inr ⟨q, vm₁, B, X₁.warmed, X', hpost, hstep₁ _ fun acts => by rw [doInvoke_state]; exact hsteps⟩
theorem vx_runVN {y : MethodName} {bytes cc : ByteArray} {maxL nL mc ms n index : Nat} {ret : Option FieldType} {ws : List Cond} {rm : Room} {Pc : Array Value → State → Prop} {Qc : Array Value → State → Outcome → State → Prop} {XC : String → State → State → Prop} {free : Addr → Prop} {Ts : List Cond} {own C host : String} {b : Addr} {As rest : List Value} {g : JFrame}
    (S : CallFix p m c cc nL s args Ts own) (hM : vx_Met l y ws rm Pc Qc XC mc ms free) (cw : va_CN R s args own index y host bytes maxL ret ws rm mc ms n ∧ (Cond.instanceMethod y).before args s = true ∧ (Cond.selects C y y).before args s = true) (hp : PreV s H C b Pc As)
    (hg : g.method = m) (hn : As.length = n) (hsize : g.locals.size = nL) (hstack : g.stack = As.reverse ++ .ref b :: rest) (hW : 2 * g.monitorRoom + (rest.map fun v => v.category).sum ≤ 8) (hdg : decode cc g.pc = .ok (.invokevirtual index, 3)) (hf : cells + mc ≤ R.cells ∧ slots + ms ≤ R.slots) :
    vx_Run p l e R s m args below meth c H locs cells slots mc ms g rest (Qc (Value.ref b :: As).toArray) XC free := by
  obtain ⟨⟨⟨hrc, hrs, hfr, hlo, hws, hcw⟩, hcode, hini, hy, hlen, hl⟩, hx1, hx2⟩ := cw
  have hK : vx_Back l R p e below s args y 3 8 (PreOf R mc ms Pc) (PostOf Qc mc ms free) (vx_Post XC mc ms free) := vx_back (bytes := bytes) (maxL := maxL) (ret := ret) hM hp.1 hrc hrs hfr hlo hws hcw (fun a' U hW => word_at hW (Or.inl (by first | rfl | simp [Cond.onTables, Cond.keeps, Cond.steady])) hini)
  obtain ⟨hx, hb, hml, ho, -⟩ := S
  obtain ⟨-, ⟨cellB, hcB, hoB, hclB⟩, hPc⟩ := hp
  intro T hT X
  rcases vx_callVN X hx (C := C) (bytes := bytes) (maxL := maxL) (ret := ret) ho hl hx1 hx2 hcode hy hK (by rw [hT]; exact hcB) hoB hclB hg (hsize.trans hml.symm) (argsL := As) (rest := rest) (fun sig h => hn.trans (hlen sig h)) hstack hW (by rw [hb]; exact hdg)
    (fun vm₁ hW₁ => ⟨hf.1, hf.2, hPc (T.setVm vm₁) hT hW₁⟩) with ⟨v, vm₁, ⟨U', l2, c2, s2⟩, hW₁, X', ⟨g', mk, t, L, e1, e2, hq, h1, hL, h2, h3⟩, st⟩ | ⟨q, vm₁, ⟨U', l2, c2, s2⟩, hW₁, X', ⟨g', mk, t, L, E, ce, e1, e2, hq, hce, hcv, hcl, h1, hL, h2, h3⟩, st⟩
  · dsimp only [Pt.U, Pt.locs, Pt.cells, Pt.slots] at X' e1 e2 h1 h2 h3 st
    subst h1; subst h2; subst h3
    exact Or.inl ⟨v, (T.setVm vm₁).calling g' mk (Value.ref b :: As).toArray, t, U', L, hT, X', hL, e1, e2, hq, st⟩
  · dsimp only [Pt.U, Pt.locs, Pt.cells, Pt.slots] at X' e1 e2 h1 h2 h3 st hcl
    subst h1; subst h2; subst h3
    exact Or.inr ⟨q, (T.setVm vm₁).calling g' mk (Value.ref b :: As).toArray, t, U', L, E, ce, hT, X', hL, e1, e2, hq, hce, hcv, vx_cls hW₁ hcl, st⟩
theorem vx_runSN {y : MethodName} {bytes cc : ByteArray} {maxL nL mc ms n index : Nat} {ret : Option FieldType} {ws : List Cond} {rm : Room} {Pc : Array Value → State → Prop} {Qc : Array Value → State → Outcome → State → Prop} {XC : String → State → State → Prop} {free : Addr → Prop} {Ts : List Cond} {own host : String} {As rest : List Value} {g : JFrame}
    (S : CallFix p m c cc nL s args Ts own) (hM : vx_Met l y ws rm Pc Qc XC mc ms free) (cw : va_CN R s args own index y host bytes maxL ret ws rm mc ms n ∧ (Cond.static y).before args s = true ∧ True) (hp : PreS s H Pc As)
    (hg : g.method = m) (hn : As.length = n) (hsize : g.locals.size = nL) (hstack : g.stack = As.reverse ++ rest) (hW : 2 * g.monitorRoom + (rest.map fun v => v.category).sum ≤ 8) (hdg : decode cc g.pc = .ok (.invokestatic index, 3)) (hf : cells + mc ≤ R.cells ∧ slots + ms ≤ R.slots) :
    vx_Run p l e R s m args below meth c H locs cells slots mc ms g rest (Qc As.toArray) XC free := by
  obtain ⟨⟨⟨hrc, hrs, hfr, hlo, hws, hcw⟩, hcode, hini, hy, hlen, hl⟩, hx1, hx2⟩ := cw
  have hK : vx_Back l R p e below s args y 3 8 (PreOf R mc ms Pc) (PostOf Qc mc ms free) (vx_Post XC mc ms free) := vx_back (bytes := bytes) (maxL := maxL) (ret := ret) hM hp.1 hrc hrs hfr hlo hws hcw (fun a' U hW => word_at hW (Or.inl (by first | rfl | simp [Cond.onTables, Cond.keeps, Cond.steady])) hini)
  obtain ⟨hx, hb, hml, ho, -⟩ := S
  have hPc := hp.2
  intro T hT X
  rcases vx_callSN X hx (bytes := bytes) (maxL := maxL) (ret := ret) ho hl hx1 hini hcode hy hK hg (hsize.trans hml.symm) (argsL := As) (rest := rest) (fun sig h => hn.trans (hlen sig h)) hstack hW (by rw [hb]; exact hdg)
    (fun vm₁ hW₁ => ⟨hf.1, hf.2, hPc (T.setVm vm₁) hT hW₁⟩) with ⟨v, vm₁, ⟨U', l2, c2, s2⟩, hW₁, X', ⟨g', mk, t, L, e1, e2, hq, h1, hL, h2, h3⟩, st⟩ | ⟨q, vm₁, ⟨U', l2, c2, s2⟩, hW₁, X', ⟨g', mk, t, L, E, ce, e1, e2, hq, hce, hcv, hcl, h1, hL, h2, h3⟩, st⟩
  · dsimp only [Pt.U, Pt.locs, Pt.cells, Pt.slots] at X' e1 e2 h1 h2 h3 st
    subst h1; subst h2; subst h3
    exact Or.inl ⟨v, (T.setVm vm₁).calling g' mk As.toArray, t, U', L, hT, X', hL, e1, e2, hq, st⟩
  · dsimp only [Pt.U, Pt.locs, Pt.cells, Pt.slots] at X' e1 e2 h1 h2 h3 st hcl
    subst h1; subst h2; subst h3
    exact Or.inr ⟨q, (T.setVm vm₁).calling g' mk As.toArray, t, U', L, E, ce, hT, X', hL, e1, e2, hq, hce, hcv, vx_cls hW₁ hcl, st⟩
end
/-! WORDS: those of the tables that stay true, handed to every method alike; those of nests and casts beside -/
def gUW : List Cond := lw_tbl.filter goodWord
def gNest (w : Cond) : Bool := match w with
  | .fieldLinkNest .. => true
  | .methodLinkNest .. => true
  | .castable .. => true
  | .declares _ => true
  | _ => false
def gNL : List Cond := lw_tbl.filter gNest
theorem gmem {w : Cond} (h : w ∈ lw_tbl) (g : goodWord w = true) : w ∈ gUW := List.mem_filter.mpr ⟨h, g⟩
theorem gnmem {w : Cond} (h : w ∈ lw_tbl) (g : gNest w = true) : w ∈ gNL := List.mem_filter.mpr ⟨h, g⟩
theorem gUW_good : ∀ w ∈ gUW, goodWord w = true := fun w h => (List.mem_filter.mp h).2
theorem gUW_in {w' : List Cond} (h : ∀ w ∈ w', w ∈ gUW) : GoodIn gUW w' := fun w hw => ⟨h w hw, good_of_word (gUW_good w (h w hw))⟩
theorem gNL_on {w : Cond} (hw : w ∈ gNL) : w.onTables = true := by
  have h := (List.mem_filter.mp hw).2
  cases w <;> first | rfl | (simp [gNest] at h)
theorem gNL_warm {s U : State} (hW : s.WarmedH U.vm) {w : Cond} (hw : w ∈ gNL) (h : va_Nw w s) : va_Nw w U := by
  have h1 := (List.mem_filter.mp hw).2
  cases w <;> first | exact va_Nw.warmF hW h | exact va_Nw.warmM hW h | exact va_Nw.warmC hW h | exact va_Nw.warmD hW h | (simp [gNest] at h1)
def gSt : List (String × Nat × String) := [("BottlingBook", 336, "a number is out of range"), ("BottlingBook", 77, "there is no room for a harvest"), ("BottlingBook", 102, "the text has an error"), ("BottlingBook", 108, "a number of quarters is 0"), ("BottlingBook", 345, "refused"), ("BottlingBook", 340, "there is no such number"), ("BottlingBook", 167, "there is no such part"), ("BottlingBook", 183, "there is no such index"), ("BottlingBook", 343, "the second grape does not fit the first one"), ("BottlingBook", 246, "no reason was kept"), ("BottlingBook", 249, "there is no room for a customer"), ("BottlingBook", 318, "the input is full"), ("BottlingBook", 324, "no text had an error"), ("BottlingBook", 326, "there is no change to undo"), ("BottlingBook", 334, "nothing was saved")]
/-! THE PURE SIDE: a world is a fixed row of shapes at addresses, and one function of ints -/
abbrev HP : Type := Nat → Nat → Int32
def hput (h : HP) (p k : Nat) (v : Int32) : HP := fun q j => if q = p then (if j = k then v else h q j) else h q j
/-- a field: a number that never changes, a number, null, a place -/
abbrev Fk : Type := Int32 ⊕ Option (Option Nat)
/-- arrays of numbers (kind, length); objects (which, fields); arrays of places -/
abbrev Sh : Type := (Nat × Nat) ⊕ ((Nat × List Fk) ⊕ List (Option Nat))
def k1000 : UInt64 := 4652007308841189376
def gAr (t : Nat) (f : Nat → Int32) : (Nat → Int32) ⊕ (Nat → Int64) ⊕ (Nat → UInt32) ⊕ (Nat → UInt64) ⊕ (Nat → Option Nat) :=
  match t with
  | 2 => .inr (.inl fun i => (f i).toInt64)
  | 3 => .inr (.inr (.inr (.inl fun i => FP.ddiv (FP.i2d (f i)) k1000)))
  | _ => .inl f
def gFv (ad : Nat → Nat) (x : Int32) (o : Fk) : Value :=
  match o with
  | .inl v => .int v
  | .inr none => .int x
  | .inr (some none) => .null
  | .inr (some (some q)) => .ref (ad q)
def gEnt (ad : Nat → Nat) (tyC : Nat → ClassId) (f : Nat → Int32) (sh : Sh) : va_E :=
  match sh with
  | .inl a => .inl (tyC a.1, a.2, gAr a.1 f)
  | .inr (.inl o) => .inr (o.1, o.2.mapIdx fun k x => gFv ad (f k) x)
  | .inr (.inr qs) => .inl (tyC 4, qs.length, .inr (.inr (.inr (.inr fun i => (qs[i]?.join).map ad))))
def gW (ad : Nat → Nat) (tyC : Nat → ClassId) (S : List Sh) (h : HP) : va_W := S.mapIdx fun p sh => (ad p, gEnt ad tyC (h p) sh)
theorem gW_at {ad : Nat → Nat} {tyC : Nat → ClassId} {S : List Sh} {h : HP} {p : Nat} {sh : Sh} (hS : S[p]? = some sh) : (gW ad tyC S h)[p]? = some (ad p, gEnt ad tyC (h p) sh) := by
  unfold gW; rw [List.getElem?_mapIdx, hS]; rfl
theorem gW_inv {ad : Nat → Nat} {tyC : Nat → ClassId} {S : List Sh} {h : HP} {p : Nat} {x : Nat × va_E} (hx : (gW ad tyC S h)[p]? = some x) : ∃ sh, S[p]? = some sh ∧ x = (ad p, gEnt ad tyC (h p) sh) := by
  unfold gW at hx; rw [List.getElem?_mapIdx] at hx
  cases hS : S[p]? with
  | none => rw [hS] at hx; cases hx
  | some sh => rw [hS] at hx; exact ⟨sh, rfl, (Option.some.inj hx).symm⟩
theorem gW_set {ad : Nat → Nat} {tyC : Nat → ClassId} {S : List Sh} {h h' : HP} {p : Nat} {sh : Sh} (hS : S[p]? = some sh) (hh : ∀ q, q ≠ p → h' q = h q) : (gW ad tyC S h).set p (ad p, gEnt ad tyC (h' p) sh) = gW ad tyC S h' := by
  apply List.ext_getElem?
  intro j
  by_cases hj : j = p
  · subst hj
    rw [gW_at hS, List.getElem?_set_self]
    exact (List.getElem?_eq_some_iff.mp (gW_at (ad := ad) (tyC := tyC) (h := h) hS)).1
  · rw [List.getElem?_set_ne (Ne.symm hj)]
    unfold gW; rw [List.getElem?_mapIdx, List.getElem?_mapIdx, hh j hj]
theorem gW_setS {ad : Nat → Nat} {tyC : Nat → ClassId} {S : List Sh} {h : HP} {p : Nat} {sh' : Sh} (hp : p < S.length) : (gW ad tyC S h).set p (ad p, gEnt ad tyC (h p) sh') = gW ad tyC (S.set p sh') h := by
  apply List.ext_getElem?
  intro j
  by_cases hj : j = p
  · subst hj
    rw [gW_at (S := S.set j sh') (sh := sh') (by rw [List.getElem?_set_self hp]), List.getElem?_set_self (by unfold gW; simpa using hp)]
  · rw [List.getElem?_set_ne (Ne.symm hj)]
    unfold gW; rw [List.getElem?_mapIdx, List.getElem?_mapIdx, List.getElem?_set_ne (Ne.symm hj)]
theorem hput_self (h : HP) (p k : Nat) (v : Int32) : (hput h p k v) p = upd (h p) k v := by
  funext j; simp [hput, upd]
theorem hput_ne (h : HP) {p q : Nat} (k : Nat) (v : Int32) (hq : q ≠ p) : (hput h p k v) q = h q := by
  funext j; simp [hput, hq]
theorem gAr_0 (f : Nat → Int32) : gAr 0 f = .inl f := rfl
theorem gAr_1 (f : Nat → Int32) : gAr 1 f = .inl f := rfl
theorem gFs_int {ad : Nat → Nat} {f : Nat → Int32} {fs : List Fk} {k : Nat} (hk : fs[k]? = some (.inr none)) : (fs.mapIdx fun k x => gFv ad (f k) x)[k]? = some (.int (f k)) := by
  rw [List.getElem?_mapIdx, hk]; rfl
theorem gFs_con {ad : Nat → Nat} {f : Nat → Int32} {fs : List Fk} {k : Nat} {v : Int32} (hk : fs[k]? = some (.inl v)) : (fs.mapIdx fun k x => gFv ad (f k) x)[k]? = some (.int v) := by
  rw [List.getElem?_mapIdx, hk]; rfl
theorem gFs_ref {ad : Nat → Nat} {f : Nat → Int32} {fs : List Fk} {k q : Nat} (hk : fs[k]? = some (.inr (some (some q)))) : (fs.mapIdx fun k x => gFv ad (f k) x)[k]? = some (.ref (ad q)) := by
  rw [List.getElem?_mapIdx, hk]; rfl
theorem gFs_put {ad : Nat → Nat} {f : Nat → Int32} {fs : List Fk} {k : Nat} {v : Int32} (hk : fs[k]? = some (.inr none)) : (fs.mapIdx fun k x => gFv ad (f k) x).set k (.int v) = (fs.mapIdx fun j x => gFv ad (upd f k v j) x) := by
  apply List.ext_getElem?
  intro j
  by_cases hj : j = k
  · subst hj
    have hl : j < fs.length := (List.getElem?_eq_some_iff.mp hk).1
    rw [List.getElem?_set_self (by simpa using hl), List.getElem?_mapIdx, hk]
    simp [gFv, upd]
  · rw [List.getElem?_set_ne (Ne.symm hj), List.getElem?_mapIdx, List.getElem?_mapIdx]
    simp [upd, hj]
theorem gFs_putR {ad : Nat → Nat} {f : Nat → Int32} {fs : List Fk} {k q : Nat} (hk : k < fs.length) : (fs.mapIdx fun k x => gFv ad (f k) x).set k (.ref (ad q)) = ((fs.set k (.inr (some (some q)))).mapIdx fun j x => gFv ad (f j) x) := by
  apply List.ext_getElem?
  intro j
  by_cases hj : j = k
  · subst hj
    rw [List.getElem?_set_self (by simpa using hk), List.getElem?_mapIdx, List.getElem?_set_self hk]
    rfl
  · rw [List.getElem?_set_ne (Ne.symm hj), List.getElem?_mapIdx, List.getElem?_mapIdx, List.getElem?_set_ne (Ne.symm hj)]
/-- the places a method may change: its world's, and what it makes -/
def gA (ad : Nat → Nat) (S : List Sh) (sz : Nat) : Nat → Prop := fun q => (∃ k, k < S.length ∧ q = ad k) ∨ sz ≤ q
/-- locals by their places -/
def gL (ls : Array Slot) (nL : Nat) (L : List (Option Value)) : Prop := ls.size = nL ∧ lv_wf ls ∧ ∀ (i : Nat) (v : Value), L[i]? = some (some v) → ls[i]? = some (.val v)
def gLs (L : List (Option Value)) : List (Nat × Value) := (List.range L.length).filterMap fun i => (L[i]?.join).map fun v => (i, v)
theorem gLs_mem {L : List (Option Value)} {q : Nat × Value} : q ∈ gLs L ↔ L[q.1]? = some (some q.2) := by
  unfold gLs
  rw [List.mem_filterMap]
  constructor
  · rintro ⟨i, -, hi⟩
    cases h : L[i]? with
    | none => rw [h] at hi; cases hi
    | some o =>
      rw [h] at hi
      cases o with
      | none => cases hi
      | some v => cases hi; exact h
  · intro h
    refine ⟨q.1, List.mem_range.mpr (List.getElem?_eq_some_iff.mp h).1, ?_⟩
    rw [h]; rfl
theorem gL_has {ls : Array Slot} {nL : Nat} {L : List (Option Value)} (h : gL ls nL L) : lv_has ls nL (gLs L) := ⟨h.1, h.2.1, fun q hq => h.2.2 q.1 q.2 (gLs_mem.mp hq)⟩
/-- a store at i leaves no half of a long behind -/
def gOk (L : List (Option Value)) (i : Nat) : Bool := match i with
  | 0 => true
  | j + 1 => match L[j]? with
    | some (some w) => w.category != 2
    | _ => true
theorem gL_put {ls' : Array Slot} {nL i : Nat} {v : Value} {L : List (Option Value)} (hok : gOk L i = true) (h : lv_has ls' nL ((i, v) :: (gLs L).filter (fun q => !(q.1 == i) && !(q.1 + 1 == i && q.2.category == 2)))) : gL ls' nL (L.set i (some v)) := by
  refine ⟨h.1, h.2.1, fun j w hj => ?_⟩
  by_cases hji : j = i
  · subst hji
    have hl : j < (L.set j (some v)).length := (List.getElem?_eq_some_iff.mp hj).1
    rw [List.length_set] at hl
    rw [List.getElem?_set_self hl] at hj
    cases hj
    exact h.2.2 (j, v) List.mem_cons_self
  · rw [List.getElem?_set_ne (Ne.symm hji)] at hj
    refine h.2.2 (j, w) (List.mem_cons_of_mem _ (List.mem_filter.mpr ⟨gLs_mem.mpr hj, ?_⟩))
    simp only [Bool.and_eq_true, Bool.not_eq_true', beq_eq_false_iff_ne, ne_eq, Bool.and_eq_false_iff]
    refine ⟨hji, ?_⟩
    by_cases hj1 : j + 1 = i
    · subst hj1
      right
      simp only [gOk, hj] at hok
      simpa using hok
    · exact Or.inl hj1
theorem gL_drop {ls : Array Slot} {nL i : Nat} {L : List (Option Value)} (h : gL ls nL L) : gL ls nL (L.set i none) := by
  refine ⟨h.1, h.2.1, fun j w hj => ?_⟩
  by_cases hji : j = i
  · subst hji
    have hl : j < (L.set j none).length := (List.getElem?_eq_some_iff.mp hj).1
    rw [List.length_set] at hl
    rw [List.getElem?_set_self hl] at hj
    cases hj
  · rw [List.getElem?_set_ne (Ne.symm hji)] at hj
    exact h.2.2 j w hj
theorem gL_entry (vs : List Value) {n : Nat} (h1 : ∀ v ∈ vs, v.category = 1) (h : vs.length ≤ n) : gL ((lg_sl vs ++ List.replicate (n - (lg_sl vs).length) Slot.unset).toArray) n (vs.map some ++ List.replicate (n - vs.length) none) := by
  have hcat : ∀ (vs : List Value), (∀ v ∈ vs, v.category = 1) → (lg_sl vs).length = vs.length ∧ ∀ (j i : Nat) (v : Value), vs[i]? = some v → (j + i, v) ∈ lv_args j vs := by
    intro vs
    induction vs with
    | nil => intro _; exact ⟨rfl, fun j i v h => by simp at h⟩
    | cons a l ih =>
      intro hc
      obtain ⟨i1, i2⟩ := ih (fun v hv => hc v (List.mem_cons_of_mem _ hv))
      have ha := hc a List.mem_cons_self
      refine ⟨?_, fun j i v hv => ?_⟩
      · have e : lg_sl (a :: l) = lg_sl [a] ++ lg_sl l := by simp [lg_sl]
        have e1 : (lg_sl [a]).length = 1 := by
          cases a <;> simp_all [lg_sl, Value.category]
        rw [e, List.length_append, i1, e1, List.length_cons]; omega
      · unfold lv_args
        have hn : ¬ a.category = 2 := by omega
        rw [if_neg hn]
        cases i with
        | zero => simp at hv; subst hv; exact List.mem_cons_self
        | succ i =>
          have := i2 (j + 1) i v (by simpa using hv)
          refine List.mem_cons_of_mem _ ?_
          rw [show j + (i + 1) = j + 1 + i by omega]; exact this
  obtain ⟨c1, c2⟩ := hcat vs h1
  obtain ⟨e1, e2, e3⟩ := lv_entry vs (n := n) (by rw [c1]; exact h)
  refine ⟨e1, e2, fun i v hv => ?_⟩
  by_cases hi : i < vs.length
  · rw [List.getElem?_append_left (by simpa using hi), List.getElem?_map] at hv
    cases hx : vs[i]? with
    | none => rw [hx] at hv; cases hv
    | some w =>
      rw [hx] at hv
      have hwv : w = v := by simpa using hv
      subst hwv
      exact e3 (i, w) (by have := c2 0 i w hx; rwa [Nat.zero_add] at this)
  · rw [List.getElem?_append_right (by simpa using hi)] at hv
    have := List.eq_of_mem_replicate (List.mem_of_getElem? hv)
    cases this
/-! THE JUDGEMENT: from this point of a method, over this world, the machine comes to the method's end -/
abbrev GC : Type := va_G × ((Nat → ClassId) × (Nat → Addr))
abbrev gT (tyC : Nat → ClassId) : List (ClassId × FieldType) := [(tyC 0, .int), (tyC 1, .char), (tyC 2, .long), (tyC 3, .double), (tyC 4, .object RX5)]
def gE (G : GC) (A : Nat → Prop) (U : State) (H : Heap) : Prop :=
  va_K G.1 vwCl (gT G.2.1) U ∧ (∀ w ∈ gNL, va_Nw w U) ∧ (∀ (k : Nat) (q : String × Nat × String), gSt[k]? = some q → vk_R q.1 q.2.1 q.2.2 (G.2.2 k) U) ∧
  vx_Zq Bundle.tN "UNASSIGNED_STACK" Bundle.steD A U H ∧ vx_Zq Bundle.tN "SUPPRESSED_SENTINEL" Bundle.listD A U H
abbrev gEnd : Type := Program → Env → State → MethodId → Array Value → List Frame → Method → Code → (Nat → Prop) → State → Prop
abbrev gCtx : Type := State → Array Value → Method → (Nat → Prop) → Prop
/-- what stands fixed while a method runs -/
def gF (cc : ByteArray) (own : String) (nL : Nat) (ret : Option FieldType) (hh : List (Nat × Nat × Nat × Nat)) (G : GC) (CX : gCtx) (p : Program) (s : State) (m : MethodId) (args : Array Value) (meth : Method) (c : Code) (A : Nat → Prop) : Prop :=
  CallFix p m c cc nL s args gUW own ∧ meth.sig.returnType = ret ∧ meth.locks = false ∧ c.exceptionTable.toList = tableOf hh ∧ (∀ q : Nat, s.heap.size ≤ q → A q) ∧ gE G A s s.heap ∧ CX s args meth A
def PW (l : Launch) (G : GC) (cc : ByteArray) (own : String) (nL : Nat) (ret : Option FieldType) (hh : List (Nat × Nat × Nat × Nat)) (R : Room) (CX : gCtx) (E : gEnd)
    (pc : Nat) (L : List (Option Value)) (st : List Value) (S : List Sh) (ad : Nat → Nat) (h : HP) (cells slots : Nat) : Prop :=
  ∀ (p : Program) (e : Env) (s : State) (m : MethodId) (args : Array Value) (below : List Frame) (meth : Method) (c : Code) (A : Nat → Prop) (H : Heap) (locs : List Loc) (ls : Array Slot),
    gF cc own nL ret hh G CX p s m args meth c A → va_P G.1 vwCl (gW ad G.2.1 S h) H → va_D A (gW ad G.2.1 S h) → va_S A s.heap H locs → gL ls nL L →
    W p l e R s m args below meth c H locs cells slots (E p e s m args below meth c A) (F0 m pc ls st)
/-- the same, where E is being thrown -/
def PX (l : Launch) (G : GC) (cc : ByteArray) (own : String) (nL : Nat) (ret : Option FieldType) (hh : List (Nat × Nat × Nat × Nat)) (R : Room) (CX : gCtx) (E : gEnd)
    (pc : Nat) (L : List (Option Value)) (st : List Value) (S : List Sh) (ad : Nat → Nat) (h : HP) (cells slots : Nat) (Ex : String) : Prop :=
  ∀ (p : Program) (e : Env) (s : State) (m : MethodId) (args : Array Value) (below : List Frame) (meth : Method) (c : Code) (A : Nat → Prop) (H : Heap) (locs : List Loc) (ls : Array Slot) (ce : Cell) (q : Addr),
    gF cc own nL ret hh G CX p s m args meth c A → va_P G.1 vwCl (gW ad G.2.1 S h) H → va_D A (gW ad G.2.1 S h) → va_S A s.heap H locs → gL ls nL L →
    H[q]? = some ce → ce.vm = .none → s.vm.findClass Ex = some ce.cls →
    vx_W p l e R s m args below meth c H locs cells slots (E p e s m args below meth c A) (F0 m pc ls st) q
section PWR
variable {l : Launch} {G : GC} {cc : ByteArray} {own : String} {nL : Nat} {ret : Option FieldType} {hh : List (Nat × Nat × Nat × Nat)} {R : Room} {CX : gCtx} {E : gEnd}
variable {pc : Nat} {L : List (Option Value)} {rest : List Value} {S : List Sh} {ad : Nat → Nat} {h : HP} {cells slots : Nat}
theorem PW.widen {st : List Value} {k n : Nat} (h1 : cells ≤ k) (h2 : slots ≤ n) (kk : PW l G cc own nL ret hh R CX E pc L st S ad h k n) : PW l G cc own nL ret hh R CX E pc L st S ad h cells slots := by
  intro p e s m args below meth c A H locs ls F hP hD hS hl
  exact W.widen h1 h2 (kk p e s m args below meth c A H locs ls F hP hD hS hl)

theorem pw_iconst {n : Int} {v : Int32} (hd : decode cc pc = .ok (.iconst n, 1)) (hv : Int32.ofInt n = v)
    (k : PW l G cc own nL ret hh R CX E (pc + 1) L (.int v :: rest) S ad h cells slots) : PW l G cc own nL ret hh R CX E pc L rest S ad h cells slots := by
  intro p e s m args below meth c A H locs ls F hP hD hS hl
  obtain ⟨⟨hx, hb, hml, hown, hts⟩, hr, hlk, htab, hA, hE, hcx⟩ := id F
  exact lv_iconst hx hb hd hv (k p e s m args below meth c A H locs ls F hP hD hS hl)
theorem pw_bipush {n : Int} {v : Int32} (hd : decode cc pc = .ok (.bipush n, 2)) (hv : (Int8.ofInt n).toInt32 = v)
    (k : PW l G cc own nL ret hh R CX E (pc + 2) L (.int v :: rest) S ad h cells slots) : PW l G cc own nL ret hh R CX E pc L rest S ad h cells slots := by
  intro p e s m args below meth c A H locs ls F hP hD hS hl
  obtain ⟨⟨hx, hb, hml, hown, hts⟩, hr, hlk, htab, hA, hE, hcx⟩ := id F
  exact lv_bipush hx hb hd hv (k p e s m args below meth c A H locs ls F hP hD hS hl)
theorem pw_sipush {n : Int} {v : Int32} (hd : decode cc pc = .ok (.sipush n, 3)) (hv : (Int16.ofInt n).toInt32 = v)
    (k : PW l G cc own nL ret hh R CX E (pc + 3) L (.int v :: rest) S ad h cells slots) : PW l G cc own nL ret hh R CX E pc L rest S ad h cells slots := by
  intro p e s m args below meth c A H locs ls F hP hD hS hl
  obtain ⟨⟨hx, hb, hml, hown, hts⟩, hr, hlk, htab, hA, hE, hcx⟩ := id F
  exact lv_sipush hx hb hd hv (k p e s m args below meth c A H locs ls F hP hD hS hl)
theorem pw_null  (hd : decode cc pc = .ok (.aconst_null, 1)) 
    (k : PW l G cc own nL ret hh R CX E (pc + 1) L (.null :: rest) S ad h cells slots) : PW l G cc own nL ret hh R CX E pc L rest S ad h cells slots := by
  intro p e s m args below meth c A H locs ls F hP hD hS hl
  obtain ⟨⟨hx, hb, hml, hown, hts⟩, hr, hlk, htab, hA, hE, hcx⟩ := id F
  exact lv_null hx hb hd (k p e s m args below meth c A H locs ls F hP hD hS hl)
theorem pw_iload_n {k : Fin 4} {x : Int32} (hd : decode cc pc = .ok (.iload_n k, 1)) (hv : L[(k : Nat)]? = some (some (.int x)))
    (k : PW l G cc own nL ret hh R CX E (pc + 1) L (.int x :: rest) S ad h cells slots) : PW l G cc own nL ret hh R CX E pc L rest S ad h cells slots := by
  intro p e s m args below meth c A H locs ls F hP hD hS hl
  obtain ⟨⟨hx, hb, hml, hown, hts⟩, hr, hlk, htab, hA, hE, hcx⟩ := id F
  exact lv_iload_n hx hb hd rfl (hl.2.2 _ _ hv) (k p e s m args below meth c A H locs ls F hP hD hS hl)
theorem pw_iload {i : Nat} {x : Int32} (hd : decode cc pc = .ok (.iload i, 2)) (hv : L[i]? = some (some (.int x)))
    (k : PW l G cc own nL ret hh R CX E (pc + 2) L (.int x :: rest) S ad h cells slots) : PW l G cc own nL ret hh R CX E pc L rest S ad h cells slots := by
  intro p e s m args below meth c A H locs ls F hP hD hS hl
  obtain ⟨⟨hx, hb, hml, hown, hts⟩, hr, hlk, htab, hA, hE, hcx⟩ := id F
  exact lv_iload hx hb hd (hl.2.2 _ _ hv) (k p e s m args below meth c A H locs ls F hP hD hS hl)
theorem pw_aload_n {k : Fin 4} {x : Nat} (hd : decode cc pc = .ok (.aload_n k, 1)) (hv : L[(k : Nat)]? = some (some (.ref x)))
    (k : PW l G cc own nL ret hh R CX E (pc + 1) L (.ref x :: rest) S ad h cells slots) : PW l G cc own nL ret hh R CX E pc L rest S ad h cells slots := by
  intro p e s m args below meth c A H locs ls F hP hD hS hl
  obtain ⟨⟨hx, hb, hml, hown, hts⟩, hr, hlk, htab, hA, hE, hcx⟩ := id F
  exact lv_aload_n hx hb hd rfl (hl.2.2 _ _ hv) (k p e s m args below meth c A H locs ls F hP hD hS hl)
theorem pw_aload {i : Nat} {x : Nat} (hd : decode cc pc = .ok (.aload i, 2)) (hv : L[i]? = some (some (.ref x)))
    (k : PW l G cc own nL ret hh R CX E (pc + 2) L (.ref x :: rest) S ad h cells slots) : PW l G cc own nL ret hh R CX E pc L rest S ad h cells slots := by
  intro p e s m args below meth c A H locs ls F hP hD hS hl
  obtain ⟨⟨hx, hb, hml, hown, hts⟩, hr, hlk, htab, hA, hE, hcx⟩ := id F
  exact lv_aload hx hb hd (hl.2.2 _ _ hv) (k p e s m args below meth c A H locs ls F hP hD hS hl)
theorem pw_istore_n {k : Fin 4} {x : Int32} (hd : decode cc pc = .ok (.istore_n k, 1)) (hn : (k : Nat) < nL) (hok : gOk L (k : Nat) = true)
    (k : PW l G cc own nL ret hh R CX E (pc + 1) (L.set (k : Nat) (some (.int x))) rest S ad h cells slots) : PW l G cc own nL ret hh R CX E pc L (.int x :: rest) S ad h cells slots := by
  intro p e s m args below meth c A H locs ls F hP hD hS hl
  obtain ⟨⟨hx, hb, hml, hown, hts⟩, hr, hlk, htab, hA, hE, hcx⟩ := id F
  exact lv_istore_n hx hb hd rfl (gL_has hl) hn rfl (fun ls1 h1 => k p e s m args below meth c A H locs ls1 F hP hD hS (gL_put hok h1))
theorem pw_istore {i : Nat} {x : Int32} (hd : decode cc pc = .ok (.istore i, 2)) (hn : i < nL) (hok : gOk L i = true)
    (k : PW l G cc own nL ret hh R CX E (pc + 2) (L.set i (some (.int x))) rest S ad h cells slots) : PW l G cc own nL ret hh R CX E pc L (.int x :: rest) S ad h cells slots := by
  intro p e s m args below meth c A H locs ls F hP hD hS hl
  obtain ⟨⟨hx, hb, hml, hown, hts⟩, hr, hlk, htab, hA, hE, hcx⟩ := id F
  exact lv_istore hx hb hd (gL_has hl) hn rfl (fun ls1 h1 => k p e s m args below meth c A H locs ls1 F hP hD hS (gL_put hok h1))
theorem pw_astore_n {k : Fin 4} {x : Nat} (hd : decode cc pc = .ok (.astore_n k, 1)) (hn : (k : Nat) < nL) (hok : gOk L (k : Nat) = true)
    (k : PW l G cc own nL ret hh R CX E (pc + 1) (L.set (k : Nat) (some (.ref x))) rest S ad h cells slots) : PW l G cc own nL ret hh R CX E pc L (.ref x :: rest) S ad h cells slots := by
  intro p e s m args below meth c A H locs ls F hP hD hS hl
  obtain ⟨⟨hx, hb, hml, hown, hts⟩, hr, hlk, htab, hA, hE, hcx⟩ := id F
  exact lv_astore_n hx hb hd rfl (gL_has hl) hn rfl (fun ls1 h1 => k p e s m args below meth c A H locs ls1 F hP hD hS (gL_put hok h1))
theorem pw_astore {i : Nat} {x : Nat} (hd : decode cc pc = .ok (.astore i, 2)) (hn : i < nL) (hok : gOk L i = true)
    (k : PW l G cc own nL ret hh R CX E (pc + 2) (L.set i (some (.ref x))) rest S ad h cells slots) : PW l G cc own nL ret hh R CX E pc L (.ref x :: rest) S ad h cells slots := by
  intro p e s m args below meth c A H locs ls F hP hD hS hl
  obtain ⟨⟨hx, hb, hml, hown, hts⟩, hr, hlk, htab, hA, hE, hcx⟩ := id F
  exact lv_astore hx hb hd (gL_has hl) hn rfl (fun ls1 h1 => k p e s m args below meth c A H locs ls1 F hP hD hS (gL_put hok h1))
theorem pw_iinc {i : Nat} {n : Int} {x d : Int32} (hd : decode cc pc = .ok (.iinc i n, 3)) (hv : L[i]? = some (some (.int x))) (hdv : Int32.ofInt n = d) (hn : i < nL) (hok : gOk L i = true)
    (k : PW l G cc own nL ret hh R CX E (pc + 3) (L.set i (some (.int (x + d)))) rest S ad h cells slots) : PW l G cc own nL ret hh R CX E pc L rest S ad h cells slots := by
  intro p e s m args below meth c A H locs ls F hP hD hS hl
  obtain ⟨⟨hx, hb, hml, hown, hts⟩, hr, hlk, htab, hA, hE, hcx⟩ := id F
  obtain ⟨j, hj⟩ := List.getElem?_of_mem (gLs_mem (q := (i, .int x)).mpr hv)
  exact lv_iinc hx hb hd (gL_has hl) hj (by rw [hdv]) hn rfl (fun ls1 h1 => k p e s m args below meth c A H locs ls1 F hP hD hS (gL_put hok h1))
theorem pw_iadd {x y : Int32} (hd : decode cc pc = .ok (.iadd, 1)) 
    (k : PW l G cc own nL ret hh R CX E (pc + 1) L (.int (x + y) :: rest) S ad h cells slots) : PW l G cc own nL ret hh R CX E pc L (.int y :: .int x :: rest) S ad h cells slots := by
  intro p e s m args below meth c A H locs ls F hP hD hS hl
  obtain ⟨⟨hx, hb, hml, hown, hts⟩, hr, hlk, htab, hA, hE, hcx⟩ := id F
  exact lv_iadd hx hb hd (k p e s m args below meth c A H locs ls F hP hD hS hl)
theorem pw_isub {x y : Int32} (hd : decode cc pc = .ok (.isub, 1)) 
    (k : PW l G cc own nL ret hh R CX E (pc + 1) L (.int (x - y) :: rest) S ad h cells slots) : PW l G cc own nL ret hh R CX E pc L (.int y :: .int x :: rest) S ad h cells slots := by
  intro p e s m args below meth c A H locs ls F hP hD hS hl
  obtain ⟨⟨hx, hb, hml, hown, hts⟩, hr, hlk, htab, hA, hE, hcx⟩ := id F
  exact lv_isub hx hb hd (k p e s m args below meth c A H locs ls F hP hD hS hl)
theorem pw_imul {x y : Int32} (hd : decode cc pc = .ok (.imul, 1)) 
    (k : PW l G cc own nL ret hh R CX E (pc + 1) L (.int (x * y) :: rest) S ad h cells slots) : PW l G cc own nL ret hh R CX E pc L (.int y :: .int x :: rest) S ad h cells slots := by
  intro p e s m args below meth c A H locs ls F hP hD hS hl
  obtain ⟨⟨hx, hb, hml, hown, hts⟩, hr, hlk, htab, hA, hE, hcx⟩ := id F
  exact lv_imul hx hb hd (k p e s m args below meth c A H locs ls F hP hD hS hl)
theorem pw_iand {x y : Int32} (hd : decode cc pc = .ok (.iand, 1)) 
    (k : PW l G cc own nL ret hh R CX E (pc + 1) L (.int (x &&& y) :: rest) S ad h cells slots) : PW l G cc own nL ret hh R CX E pc L (.int y :: .int x :: rest) S ad h cells slots := by
  intro p e s m args below meth c A H locs ls F hP hD hS hl
  obtain ⟨⟨hx, hb, hml, hown, hts⟩, hr, hlk, htab, hA, hE, hcx⟩ := id F
  exact lv_iand hx hb hd (k p e s m args below meth c A H locs ls F hP hD hS hl)
theorem pw_ior {x y : Int32} (hd : decode cc pc = .ok (.ior, 1)) 
    (k : PW l G cc own nL ret hh R CX E (pc + 1) L (.int (x ||| y) :: rest) S ad h cells slots) : PW l G cc own nL ret hh R CX E pc L (.int y :: .int x :: rest) S ad h cells slots := by
  intro p e s m args below meth c A H locs ls F hP hD hS hl
  obtain ⟨⟨hx, hb, hml, hown, hts⟩, hr, hlk, htab, hA, hE, hcx⟩ := id F
  exact lv_ior hx hb hd (k p e s m args below meth c A H locs ls F hP hD hS hl)
theorem pw_ishl {x y : Int32} (hd : decode cc pc = .ok (.ishl, 1)) 
    (k : PW l G cc own nL ret hh R CX E (pc + 1) L (.int (x <<< (y &&& 31)) :: rest) S ad h cells slots) : PW l G cc own nL ret hh R CX E pc L (.int y :: .int x :: rest) S ad h cells slots := by
  intro p e s m args below meth c A H locs ls F hP hD hS hl
  obtain ⟨⟨hx, hb, hml, hown, hts⟩, hr, hlk, htab, hA, hE, hcx⟩ := id F
  exact lv_ishl hx hb hd (k p e s m args below meth c A H locs ls F hP hD hS hl)
theorem pw_ishr {x y : Int32} (hd : decode cc pc = .ok (.ishr, 1)) 
    (k : PW l G cc own nL ret hh R CX E (pc + 1) L (.int (x >>> (y &&& 31)) :: rest) S ad h cells slots) : PW l G cc own nL ret hh R CX E pc L (.int y :: .int x :: rest) S ad h cells slots := by
  intro p e s m args below meth c A H locs ls F hP hD hS hl
  obtain ⟨⟨hx, hb, hml, hown, hts⟩, hr, hlk, htab, hA, hE, hcx⟩ := id F
  exact lv_ishr hx hb hd (k p e s m args below meth c A H locs ls F hP hD hS hl)
theorem pw_ixor {x y : Int32} (hd : decode cc pc = .ok (.ixor, 1)) 
    (k : PW l G cc own nL ret hh R CX E (pc + 1) L (.int (x ^^^ y) :: rest) S ad h cells slots) : PW l G cc own nL ret hh R CX E pc L (.int y :: .int x :: rest) S ad h cells slots := by
  intro p e s m args below meth c A H locs ls F hP hD hS hl
  obtain ⟨⟨hx, hb, hml, hown, hts⟩, hr, hlk, htab, hA, hE, hcx⟩ := id F
  exact lv_ixor hx hb hd (k p e s m args below meth c A H locs ls F hP hD hS hl)
theorem pw_iushr {x y : Int32} (hd : decode cc pc = .ok (.iushr, 1)) 
    (k : PW l G cc own nL ret hh R CX E (pc + 1) L (.int ((x.toUInt32 >>> (y.toUInt32 &&& Int32.toUInt32 31)).toInt32) :: rest) S ad h cells slots) : PW l G cc own nL ret hh R CX E pc L (.int y :: .int x :: rest) S ad h cells slots := by
  intro p e s m args below meth c A H locs ls F hP hD hS hl
  obtain ⟨⟨hx, hb, hml, hown, hts⟩, hr, hlk, htab, hA, hE, hcx⟩ := id F
  exact lv_iushr hx hb hd rfl (k p e s m args below meth c A H locs ls F hP hD hS hl)
theorem pw_idiv {x y : Int32} (hd : decode cc pc = .ok (.idiv, 1)) (hne : ¬ y = 0)
    (k : PW l G cc own nL ret hh R CX E (pc + 1) L (.int (x / y) :: rest) S ad h cells slots) : PW l G cc own nL ret hh R CX E pc L (.int y :: .int x :: rest) S ad h cells slots := by
  intro p e s m args below meth c A H locs ls F hP hD hS hl
  obtain ⟨⟨hx, hb, hml, hown, hts⟩, hr, hlk, htab, hA, hE, hcx⟩ := id F
  exact lv_idiv hx hb hd hne (k p e s m args below meth c A H locs ls F hP hD hS hl)
theorem pw_irem {x y : Int32} (hd : decode cc pc = .ok (.irem, 1)) (hne : ¬ y = 0)
    (k : PW l G cc own nL ret hh R CX E (pc + 1) L (.int (x - x / y * y) :: rest) S ad h cells slots) : PW l G cc own nL ret hh R CX E pc L (.int y :: .int x :: rest) S ad h cells slots := by
  intro p e s m args below meth c A H locs ls F hP hD hS hl
  obtain ⟨⟨hx, hb, hml, hown, hts⟩, hr, hlk, htab, hA, hE, hcx⟩ := id F
  exact lv_irem hx hb hd hne (k p e s m args below meth c A H locs ls F hP hD hS hl)
theorem pw_ineg {x : Int32} (hd : decode cc pc = .ok (.ineg, 1)) 
    (k : PW l G cc own nL ret hh R CX E (pc + 1) L (.int (-x) :: rest) S ad h cells slots) : PW l G cc own nL ret hh R CX E pc L (.int x :: rest) S ad h cells slots := by
  intro p e s m args below meth c A H locs ls F hP hD hS hl
  obtain ⟨⟨hx, hb, hml, hown, hts⟩, hr, hlk, htab, hA, hE, hcx⟩ := id F
  exact lv_ineg hx hb hd (k p e s m args below meth c A H locs ls F hP hD hS hl)
theorem pw_i2l {x : Int32} (hd : decode cc pc = .ok (.i2l, 1)) 
    (k : PW l G cc own nL ret hh R CX E (pc + 1) L (.long x.toInt64 :: rest) S ad h cells slots) : PW l G cc own nL ret hh R CX E pc L (.int x :: rest) S ad h cells slots := by
  intro p e s m args below meth c A H locs ls F hP hD hS hl
  obtain ⟨⟨hx, hb, hml, hown, hts⟩, hr, hlk, htab, hA, hE, hcx⟩ := id F
  exact lv_i2l hx hb hd rfl (k p e s m args below meth c A H locs ls F hP hD hS hl)
theorem pw_i2d {x : Int32} (hd : decode cc pc = .ok (.i2d, 1)) 
    (k : PW l G cc own nL ret hh R CX E (pc + 1) L (.double (FP.i2d x) :: rest) S ad h cells slots) : PW l G cc own nL ret hh R CX E pc L (.int x :: rest) S ad h cells slots := by
  intro p e s m args below meth c A H locs ls F hP hD hS hl
  obtain ⟨⟨hx, hb, hml, hown, hts⟩, hr, hlk, htab, hA, hE, hcx⟩ := id F
  exact lv_i2d hx hb hd (k p e s m args below meth c A H locs ls F hP hD hS hl)
theorem pw_dup {v : Value} (hd : decode cc pc = .ok (.dup, 1)) (hc : v.category = 1)
    (k : PW l G cc own nL ret hh R CX E (pc + 1) L (v :: v :: rest) S ad h cells slots) : PW l G cc own nL ret hh R CX E pc L (v :: rest) S ad h cells slots := by
  intro p e s m args below meth c A H locs ls F hP hD hS hl
  obtain ⟨⟨hx, hb, hml, hown, hts⟩, hr, hlk, htab, hA, hE, hcx⟩ := id F
  exact lv_dup hx hb hd hc (k p e s m args below meth c A H locs ls F hP hD hS hl)
theorem pw_dup2 {v w : Value} (hd : decode cc pc = .ok (.dup2, 1)) (hc : v.category = 1) (hc2 : w.category = 1)
    (k : PW l G cc own nL ret hh R CX E (pc + 1) L (v :: w :: v :: w :: rest) S ad h cells slots) : PW l G cc own nL ret hh R CX E pc L (v :: w :: rest) S ad h cells slots := by
  intro p e s m args below meth c A H locs ls F hP hD hS hl
  obtain ⟨⟨hx, hb, hml, hown, hts⟩, hr, hlk, htab, hA, hE, hcx⟩ := id F
  exact lv_dup2_11 hx hb hd hc hc2 (k p e s m args below meth c A H locs ls F hP hD hS hl)
theorem pw_i2c {x : Int32} (hd : decode cc pc = .ok (.i2c, 1)) 
    (k : PW l G cc own nL ret hh R CX E (pc + 1) L (.int ((x.toUInt32 % 65536).toInt32) :: rest) S ad h cells slots) : PW l G cc own nL ret hh R CX E pc L (.int x :: rest) S ad h cells slots := by
  intro p e s m args below meth c A H locs ls F hP hD hS hl
  obtain ⟨⟨hx, hb, hml, hown, hts⟩, hr, hlk, htab, hA, hE, hcx⟩ := id F
  exact lv_i2c hx hb hd rfl (k p e s m args below meth c A H locs ls F hP hD hS hl)
theorem pw_ddiv {x y : UInt64} (hd : decode cc pc = .ok (.ddiv, 1)) (hne : vf_n64 (FP.ddiv x y))
    (k : PW l G cc own nL ret hh R CX E (pc + 1) L (.double (FP.ddiv x y) :: rest) S ad h cells slots) : PW l G cc own nL ret hh R CX E pc L (.double y :: .double x :: rest) S ad h cells slots := by
  intro p e s m args below meth c A H locs ls F hP hD hS hl
  obtain ⟨⟨hx, hb, hml, hown, hts⟩, hr, hlk, htab, hA, hE, hcx⟩ := id F
  exact lv_ddiv hx hb hd hne (k p e s m args below meth c A H locs ls F hP hD hS hl)
theorem pw_goto {off : Int} {tgt : Nat} (hd : decode cc pc = .ok (.goto off, 3)) (ht : (pc : Int) + off = (tgt : Int)) (k : PW l G cc own nL ret hh R CX E tgt L rest S ad h cells slots) : PW l G cc own nL ret hh R CX E pc L rest S ad h cells slots := by
  intro p e s m args below meth c A H locs ls F hP hD hS hl
  obtain ⟨⟨hx, hb, hml, hown, hts⟩, hr, hlk, htab, hA, hE, hcx⟩ := id F
  exact lv_goto hx hb hd ht (k p e s m args below meth c A H locs ls F hP hD hS hl)
theorem pw_if_eq {x : Int32} {off : Int} {tgt : Nat} (hd : decode cc pc = .ok (.ifCond .eq off, 3)) (ht : (pc : Int) + off = (tgt : Int)) (kt : x = 0 → PW l G cc own nL ret hh R CX E tgt L rest S ad h cells slots) (kf : ¬ (x = 0) → PW l G cc own nL ret hh R CX E (pc + 3) L rest S ad h cells slots) : PW l G cc own nL ret hh R CX E pc L (.int x :: rest) S ad h cells slots := by
  intro p e s m args below meth c A H locs ls F hP hD hS hl
  obtain ⟨⟨hx, hb, hml, hown, hts⟩, hr, hlk, htab, hA, hE, hcx⟩ := id F
  exact lv_if_eq hx hb hd ht (fun q => kt q p e s m args below meth c A H locs ls F hP hD hS hl) (fun q => kf q p e s m args below meth c A H locs ls F hP hD hS hl)
theorem pw_if_ne {x : Int32} {off : Int} {tgt : Nat} (hd : decode cc pc = .ok (.ifCond .ne off, 3)) (ht : (pc : Int) + off = (tgt : Int)) (kt : ¬ x = 0 → PW l G cc own nL ret hh R CX E tgt L rest S ad h cells slots) (kf : x = 0 → PW l G cc own nL ret hh R CX E (pc + 3) L rest S ad h cells slots) : PW l G cc own nL ret hh R CX E pc L (.int x :: rest) S ad h cells slots := by
  intro p e s m args below meth c A H locs ls F hP hD hS hl
  obtain ⟨⟨hx, hb, hml, hown, hts⟩, hr, hlk, htab, hA, hE, hcx⟩ := id F
  exact lv_if_ne hx hb hd ht (fun q => kt q p e s m args below meth c A H locs ls F hP hD hS hl) (fun q => kf q p e s m args below meth c A H locs ls F hP hD hS hl)
theorem pw_if_lt {x : Int32} {off : Int} {tgt : Nat} (hd : decode cc pc = .ok (.ifCond .lt off, 3)) (ht : (pc : Int) + off = (tgt : Int)) (kt : x < 0 → PW l G cc own nL ret hh R CX E tgt L rest S ad h cells slots) (kf : ¬ (x < 0) → PW l G cc own nL ret hh R CX E (pc + 3) L rest S ad h cells slots) : PW l G cc own nL ret hh R CX E pc L (.int x :: rest) S ad h cells slots := by
  intro p e s m args below meth c A H locs ls F hP hD hS hl
  obtain ⟨⟨hx, hb, hml, hown, hts⟩, hr, hlk, htab, hA, hE, hcx⟩ := id F
  exact lv_if_lt hx hb hd ht (fun q => kt q p e s m args below meth c A H locs ls F hP hD hS hl) (fun q => kf q p e s m args below meth c A H locs ls F hP hD hS hl)
theorem pw_if_ge {x : Int32} {off : Int} {tgt : Nat} (hd : decode cc pc = .ok (.ifCond .ge off, 3)) (ht : (pc : Int) + off = (tgt : Int)) (kt : 0 ≤ x → PW l G cc own nL ret hh R CX E tgt L rest S ad h cells slots) (kf : ¬ (0 ≤ x) → PW l G cc own nL ret hh R CX E (pc + 3) L rest S ad h cells slots) : PW l G cc own nL ret hh R CX E pc L (.int x :: rest) S ad h cells slots := by
  intro p e s m args below meth c A H locs ls F hP hD hS hl
  obtain ⟨⟨hx, hb, hml, hown, hts⟩, hr, hlk, htab, hA, hE, hcx⟩ := id F
  exact lv_if_ge hx hb hd ht (fun q => kt q p e s m args below meth c A H locs ls F hP hD hS hl) (fun q => kf q p e s m args below meth c A H locs ls F hP hD hS hl)
theorem pw_if_gt {x : Int32} {off : Int} {tgt : Nat} (hd : decode cc pc = .ok (.ifCond .gt off, 3)) (ht : (pc : Int) + off = (tgt : Int)) (kt : 0 < x → PW l G cc own nL ret hh R CX E tgt L rest S ad h cells slots) (kf : ¬ (0 < x) → PW l G cc own nL ret hh R CX E (pc + 3) L rest S ad h cells slots) : PW l G cc own nL ret hh R CX E pc L (.int x :: rest) S ad h cells slots := by
  intro p e s m args below meth c A H locs ls F hP hD hS hl
  obtain ⟨⟨hx, hb, hml, hown, hts⟩, hr, hlk, htab, hA, hE, hcx⟩ := id F
  exact lv_if_gt hx hb hd ht (fun q => kt q p e s m args below meth c A H locs ls F hP hD hS hl) (fun q => kf q p e s m args below meth c A H locs ls F hP hD hS hl)
theorem pw_if_le {x : Int32} {off : Int} {tgt : Nat} (hd : decode cc pc = .ok (.ifCond .le off, 3)) (ht : (pc : Int) + off = (tgt : Int)) (kt : x ≤ 0 → PW l G cc own nL ret hh R CX E tgt L rest S ad h cells slots) (kf : ¬ (x ≤ 0) → PW l G cc own nL ret hh R CX E (pc + 3) L rest S ad h cells slots) : PW l G cc own nL ret hh R CX E pc L (.int x :: rest) S ad h cells slots := by
  intro p e s m args below meth c A H locs ls F hP hD hS hl
  obtain ⟨⟨hx, hb, hml, hown, hts⟩, hr, hlk, htab, hA, hE, hcx⟩ := id F
  exact lv_if_le hx hb hd ht (fun q => kt q p e s m args below meth c A H locs ls F hP hD hS hl) (fun q => kf q p e s m args below meth c A H locs ls F hP hD hS hl)
theorem pw_icmp_eq {x y : Int32} {off : Int} {tgt : Nat} (hd : decode cc pc = .ok (.if_icmp .eq off, 3)) (ht : (pc : Int) + off = (tgt : Int)) (kt : x = y → PW l G cc own nL ret hh R CX E tgt L rest S ad h cells slots) (kf : ¬ (x = y) → PW l G cc own nL ret hh R CX E (pc + 3) L rest S ad h cells slots) : PW l G cc own nL ret hh R CX E pc L (.int y :: .int x :: rest) S ad h cells slots := by
  intro p e s m args below meth c A H locs ls F hP hD hS hl
  obtain ⟨⟨hx, hb, hml, hown, hts⟩, hr, hlk, htab, hA, hE, hcx⟩ := id F
  exact lv_icmp_eq hx hb hd ht (fun q => kt q p e s m args below meth c A H locs ls F hP hD hS hl) (fun q => kf q p e s m args below meth c A H locs ls F hP hD hS hl)
theorem pw_icmp_ne {x y : Int32} {off : Int} {tgt : Nat} (hd : decode cc pc = .ok (.if_icmp .ne off, 3)) (ht : (pc : Int) + off = (tgt : Int)) (kt : ¬ x = y → PW l G cc own nL ret hh R CX E tgt L rest S ad h cells slots) (kf : x = y → PW l G cc own nL ret hh R CX E (pc + 3) L rest S ad h cells slots) : PW l G cc own nL ret hh R CX E pc L (.int y :: .int x :: rest) S ad h cells slots := by
  intro p e s m args below meth c A H locs ls F hP hD hS hl
  obtain ⟨⟨hx, hb, hml, hown, hts⟩, hr, hlk, htab, hA, hE, hcx⟩ := id F
  exact lv_icmp_ne hx hb hd ht (fun q => kt q p e s m args below meth c A H locs ls F hP hD hS hl) (fun q => kf q p e s m args below meth c A H locs ls F hP hD hS hl)
theorem pw_icmp_lt {x y : Int32} {off : Int} {tgt : Nat} (hd : decode cc pc = .ok (.if_icmp .lt off, 3)) (ht : (pc : Int) + off = (tgt : Int)) (kt : x < y → PW l G cc own nL ret hh R CX E tgt L rest S ad h cells slots) (kf : ¬ (x < y) → PW l G cc own nL ret hh R CX E (pc + 3) L rest S ad h cells slots) : PW l G cc own nL ret hh R CX E pc L (.int y :: .int x :: rest) S ad h cells slots := by
  intro p e s m args below meth c A H locs ls F hP hD hS hl
  obtain ⟨⟨hx, hb, hml, hown, hts⟩, hr, hlk, htab, hA, hE, hcx⟩ := id F
  exact lv_icmp_lt hx hb hd ht (fun q => kt q p e s m args below meth c A H locs ls F hP hD hS hl) (fun q => kf q p e s m args below meth c A H locs ls F hP hD hS hl)
theorem pw_icmp_ge {x y : Int32} {off : Int} {tgt : Nat} (hd : decode cc pc = .ok (.if_icmp .ge off, 3)) (ht : (pc : Int) + off = (tgt : Int)) (kt : y ≤ x → PW l G cc own nL ret hh R CX E tgt L rest S ad h cells slots) (kf : ¬ (y ≤ x) → PW l G cc own nL ret hh R CX E (pc + 3) L rest S ad h cells slots) : PW l G cc own nL ret hh R CX E pc L (.int y :: .int x :: rest) S ad h cells slots := by
  intro p e s m args below meth c A H locs ls F hP hD hS hl
  obtain ⟨⟨hx, hb, hml, hown, hts⟩, hr, hlk, htab, hA, hE, hcx⟩ := id F
  exact lv_icmp_ge hx hb hd ht (fun q => kt q p e s m args below meth c A H locs ls F hP hD hS hl) (fun q => kf q p e s m args below meth c A H locs ls F hP hD hS hl)
theorem pw_icmp_gt {x y : Int32} {off : Int} {tgt : Nat} (hd : decode cc pc = .ok (.if_icmp .gt off, 3)) (ht : (pc : Int) + off = (tgt : Int)) (kt : y < x → PW l G cc own nL ret hh R CX E tgt L rest S ad h cells slots) (kf : ¬ (y < x) → PW l G cc own nL ret hh R CX E (pc + 3) L rest S ad h cells slots) : PW l G cc own nL ret hh R CX E pc L (.int y :: .int x :: rest) S ad h cells slots := by
  intro p e s m args below meth c A H locs ls F hP hD hS hl
  obtain ⟨⟨hx, hb, hml, hown, hts⟩, hr, hlk, htab, hA, hE, hcx⟩ := id F
  exact lv_icmp_gt hx hb hd ht (fun q => kt q p e s m args below meth c A H locs ls F hP hD hS hl) (fun q => kf q p e s m args below meth c A H locs ls F hP hD hS hl)
theorem pw_icmp_le {x y : Int32} {off : Int} {tgt : Nat} (hd : decode cc pc = .ok (.if_icmp .le off, 3)) (ht : (pc : Int) + off = (tgt : Int)) (kt : x ≤ y → PW l G cc own nL ret hh R CX E tgt L rest S ad h cells slots) (kf : ¬ (x ≤ y) → PW l G cc own nL ret hh R CX E (pc + 3) L rest S ad h cells slots) : PW l G cc own nL ret hh R CX E pc L (.int y :: .int x :: rest) S ad h cells slots := by
  intro p e s m args below meth c A H locs ls F hP hD hS hl
  obtain ⟨⟨hx, hb, hml, hown, hts⟩, hr, hlk, htab, hA, hE, hcx⟩ := id F
  exact lv_icmp_le hx hb hd ht (fun q => kt q p e s m args below meth c A H locs ls F hP hD hS hl) (fun q => kf q p e s m args below meth c A H locs ls F hP hD hS hl)
theorem pw_tabIn {dflt lo hi : Int} {offs : Array Int} {len : Nat} {x : Int32} {off : Int} {tgt : Nat} (hd : decode cc pc = .ok (.tableswitch dflt lo hi offs, len)) (h1 : ¬ x.toInt < lo) (h2 : ¬ hi < x.toInt) (ho : offs[(x.toInt - lo).toNat]? = some off) (ht : (pc : Int) + off = (tgt : Int)) (k : PW l G cc own nL ret hh R CX E tgt L rest S ad h cells slots) : PW l G cc own nL ret hh R CX E pc L (.int x :: rest) S ad h cells slots := by
  intro p e s m args below meth c A H locs ls F hP hD hS hl
  obtain ⟨⟨hx, hb, hml, hown, hts⟩, hr, hlk, htab, hA, hE, hcx⟩ := id F
  exact lv_tableIn hx hb hd h1 h2 ho ht (k p e s m args below meth c A H locs ls F hP hD hS hl)
end PWR
/-! LINKS: what the tables say of an entry of a class's pool -/
def gLF (own : String) (idx ci k : Nat) : Prop := ∃ r : vw_C, vwCl[ci]? = some r ∧ (∀ w ∈ u_ws r.1 r.2.1 r.2.2, w ∈ gUW) ∧ k < r.2.2 ∧ (r.2.1 k).1 = r.1 ∧
  ((Cond.fieldLink own idx r.1 (r.2.1 k).2.1 (r.2.1 k).2.2.1 ∈ gUW) ∨ ∃ host, Cond.fieldLinkNest own idx r.1 (r.2.1 k).2.1 (r.2.1 k).2.2.1 host ∈ gNL)
/-- a class's fields: their types, their names apart; which is final, of which type -/
def gLP (ci k : Nat) (fin : Bool) (fty : FieldType) : Prop := ∃ (r : vw_C) (ty : Nat → FieldType), vwCl[ci]? = some r ∧ (∀ j, j < r.2.2 → parseFieldDescriptor (r.2.1 j).2.2.1 = some (ty j)) ∧
  (∀ a, a < r.2.2 → ∀ b, b < r.2.2 → a ≠ b → (r.2.1 a).2.1 ≠ (r.2.1 b).2.1) ∧ (r.2.1 k).2.2.2 = fin ∧ ty k = fty
section PWH
variable {l : Launch} {G : GC} {cc : ByteArray} {own : String} {nL : Nat} {ret : Option FieldType} {hh : List (Nat × Nat × Nat × Nat)} {R : Room} {CX : gCtx} {E : gEnd}
variable {pc : Nat} {L : List (Option Value)} {rest : List Value} {S : List Sh} {ad : Nat → Nat} {h : HP} {cells slots : Nat}
theorem pw_getf {idx ci k p : Nat} {fs : List Fk} (hd : decode cc pc = .ok (.getfield idx, 3)) (hl : gLF own idx ci k) (hS : S[p]? = some (.inr (.inl (ci, fs)))) {v : Value}
    (hv : (fs.mapIdx fun k x => gFv ad (h p k) x)[k]? = some v) (kk : PW l G cc own nL ret hh R CX E (pc + 3) L (v :: rest) S ad h cells slots) : PW l G cc own nL ret hh R CX E pc L (.ref (ad p) :: rest) S ad h cells slots := by
  intro p' e s m args below meth c A H locs ls F hP hD hS' hl'
  obtain ⟨⟨hx, hb, hml, hown, hts⟩, hr, hlk, htab, hA, hE, hcx⟩ := id F
  obtain ⟨⟨C, T, N⟩, hc, hin, hkN, hself, hlink⟩ := hl
  have hat := gW_at (ad := ad) (tyC := G.2.1) (h := h) hS
  have kk' := kk p' e s m args below meth c A H locs ls F hP hD hS' hl'
  rcases hlink with hlink | ⟨host, hlink⟩
  · exact va_get (ref := C) hx hb hts hin hown hE.1 hP p hat hc k hkN (hts _ hlink) (fun x hx9 => by rw [← (show (T k).1 = C from hself)]; exact hx9) hv hd kk'
  · exact va_getN (ref := C) hx hb hts hin hown hE.1 hP p hat hc k hkN (va_Nw.use rfl (hE.2.1 _ hlink)) (fun x hx9 => by rw [← (show (T k).1 = C from hself)]; exact hx9) hv hd kk'
/-- a number is read -/
theorem pw_geti {idx ci k p : Nat} {fs : List Fk} (hd : decode cc pc = .ok (.getfield idx, 3)) (hl : gLF own idx ci k) (hS : S[p]? = some (.inr (.inl (ci, fs)))) (hf : fs[k]? = some (.inr none))
    (kk : PW l G cc own nL ret hh R CX E (pc + 3) L (.int (h p k) :: rest) S ad h cells slots) : PW l G cc own nL ret hh R CX E pc L (.ref (ad p) :: rest) S ad h cells slots := pw_getf hd hl hS (gFs_int hf) kk
theorem pw_getr {idx ci k p q : Nat} {fs : List Fk} (hd : decode cc pc = .ok (.getfield idx, 3)) (hl : gLF own idx ci k) (hS : S[p]? = some (.inr (.inl (ci, fs)))) (hf : fs[k]? = some (.inr (some (some q))))
    (kk : PW l G cc own nL ret hh R CX E (pc + 3) L (.ref (ad q) :: rest) S ad h cells slots) : PW l G cc own nL ret hh R CX E pc L (.ref (ad p) :: rest) S ad h cells slots := pw_getf hd hl hS (gFs_ref hf) kk
theorem pw_getc {idx ci k p : Nat} {fs : List Fk} {x : Int32} (hd : decode cc pc = .ok (.getfield idx, 3)) (hl : gLF own idx ci k) (hS : S[p]? = some (.inr (.inl (ci, fs)))) (hf : fs[k]? = some (.inl x))
    (kk : PW l G cc own nL ret hh R CX E (pc + 3) L (.int x :: rest) S ad h cells slots) : PW l G cc own nL ret hh R CX E pc L (.ref (ad p) :: rest) S ad h cells slots := pw_getf hd hl hS (gFs_con hf) kk
theorem hput_W {p k : Nat} {fs : List Fk} {ci : Nat} {tyC : Nat → ClassId} {v : Int32} (hS : S[p]? = some (.inr (.inl (ci, fs)))) (hf : fs[k]? = some (.inr none)) :
    (gW ad tyC S h).set p (ad p, .inr (ci, (fs.mapIdx fun k x => gFv ad (h p k) x).set k (.int v))) = gW ad tyC S (hput h p k v) := by
  rw [gFs_put hf, ← gW_set (h' := hput h p k v) hS (fun q hq => hput_ne h k v hq), hput_self]; rfl
theorem pw_puti {idx ci k p : Nat} {fs : List Fk} {x : Int32} {fty : FieldType} (hd : decode cc pc = .ok (.putfield idx, 3)) (hl : gLF own idx ci k) (hp : gLP ci k false fty) (hS : S[p]? = some (.inr (.inl (ci, fs)))) (hf : fs[k]? = some (.inr none))
    (hn : narrow fty (.int x) = .int x) (hfit : fits fty (.int x) = true)
    (kk : PW l G cc own nL ret hh R CX E (pc + 3) L rest S ad (hput h p k x) cells slots) : PW l G cc own nL ret hh R CX E pc L (.int x :: .ref (ad p) :: rest) S ad h cells slots := by
  intro p' e s m args below meth c A H locs ls F hP hD hS' hl'
  obtain ⟨⟨hx, hb, hml, hown, hts⟩, hr, hlk, htab, hA, hE, hcx⟩ := id F
  obtain ⟨⟨C, T, N⟩, hc, hin, hkN, hself, hlink⟩ := hl
  obtain ⟨r2, ty, hc2, hty, hnm, hfin, hft⟩ := hp
  cases Option.some.inj (hc.symm.trans hc2)
  subst hft
  have hat := gW_at (ad := ad) (tyC := G.2.1) (h := h) hS
  have hlen : k < (fs.mapIdx fun k x => gFv ad (h p k) x).length := by simpa using (List.getElem?_eq_some_iff.mp hf).1
  have key : ∀ (H1 : Heap) (locs1 : List Loc), va_P G.1 vwCl ((gW ad G.2.1 S h).set p (ad p, .inr (ci, (fs.mapIdx fun k x => gFv ad (h p k) x).set k (.int x)))) H1 → va_D A ((gW ad G.2.1 S h).set p (ad p, .inr (ci, (fs.mapIdx fun k x => gFv ad (h p k) x).set k (.int x)))) → va_S A s.heap H1 locs1 →
      W p' l e R s m args below meth c H1 locs1 cells slots (E p' e s m args below meth c A) (F0 m (pc + 3) ls rest) := by
    intro H1 locs1 g1 g2 g3
    rw [hput_W hS hf] at g1 g2
    exact kk p' e s m args below meth c A H1 locs1 ls F g1 g2 g3 hl'
  rcases hlink with hlink | ⟨host, hlink⟩
  · exact va_put (ref := C) hx hb hts hin ty hty hnm hown hE.1 hP hD hS' p hat hc k hkN (hts _ hlink) (fun x hx9 => by rw [← (show (T k).1 = C from hself)]; exact hx9) hfin (hty k hkN) hn hfit hlen hd key
  · exact va_putN (ref := C) hx hb hts hin ty hty hnm hown hE.1 hP hD hS' p hat hc k hkN (va_Nw.use rfl (hE.2.1 _ hlink)) (fun x hx9 => by rw [← (show (T k).1 = C from hself)]; exact hx9) hfin (hty k hkN) hn hfit hlen hd key
/-- arrays of numbers -/
theorem pw_iaload {p n : Nat} {i : Int32} (hd : decode cc pc = .ok (.iaload, 1)) (hS : S[p]? = some (.inl (0, n))) (hin : vp_in i n)
    (kk : PW l G cc own nL ret hh R CX E (pc + 1) L (.int (h p i.toNatClampNeg) :: rest) S ad h cells slots) : PW l G cc own nL ret hh R CX E pc L (.int i :: .ref (ad p) :: rest) S ad h cells slots := by
  intro p' e s m args below meth c A H locs ls F hP hD hS' hl'
  obtain ⟨⟨hx, hb, hml, hown, hts⟩, hr, hlk, htab, hA, hE, hcx⟩ := id F
  exact va_iald hx hb hE.1 hP p 0 (gW_at hS) rfl hin hd (kk p' e s m args below meth c A H locs ls F hP hD hS' hl')
theorem pw_caload {p n : Nat} {i : Int32} (hd : decode cc pc = .ok (.caload, 1)) (hS : S[p]? = some (.inl (1, n))) (hin : vp_in i n)
    (kk : PW l G cc own nL ret hh R CX E (pc + 1) L (.int (h p i.toNatClampNeg) :: rest) S ad h cells slots) : PW l G cc own nL ret hh R CX E pc L (.int i :: .ref (ad p) :: rest) S ad h cells slots := by
  intro p' e s m args below meth c A H locs ls F hP hD hS' hl'
  obtain ⟨⟨hx, hb, hml, hown, hts⟩, hr, hlk, htab, hA, hE, hcx⟩ := id F
  exact va_cald hx hb hE.1 hP p 1 (gW_at hS) rfl hin hd (kk p' e s m args below meth c A H locs ls F hP hD hS' hl')
theorem pw_aaload {p q : Nat} {qs : List (Option Nat)} {i : Int32} (hd : decode cc pc = .ok (.aaload, 1)) (hS : S[p]? = some (.inr (.inr qs))) (hin : vp_in i qs.length) (hq : qs[i.toNatClampNeg]? = some (some q))
    (kk : PW l G cc own nL ret hh R CX E (pc + 1) L (.ref (ad q) :: rest) S ad h cells slots) : PW l G cc own nL ret hh R CX E pc L (.int i :: .ref (ad p) :: rest) S ad h cells slots := by
  intro p' e s m args below meth c A H locs ls F hP hD hS' hl'
  obtain ⟨⟨hx, hb, hml, hown, hts⟩, hr, hlk, htab, hA, hE, hcx⟩ := id F
  refine va_aldq (C := RX5) hx hb hE.1 hP p 4 (gW_at hS) rfl hin hd ?_
  have e9 : va_rf ((qs[i.toNatClampNeg]?.join).map ad) = .ref (ad q) := by rw [hq]; rfl
  rw [e9]
  exact kk p' e s m args below meth c A H locs ls F hP hD hS' hl'
theorem aput_W {p k t n : Nat} {tyC : Nat → ClassId} {v : Int32} (hS : S[p]? = some (.inl (t, n))) (ht : ∀ f, gAr t f = .inl f) :
    (gW ad tyC S h).set p (ad p, .inl (tyC t, n, .inl (upd (h p) k v))) = gW ad tyC S (hput h p k v) := by
  rw [← gW_set (h' := hput h p k v) hS (fun q hq => hput_ne h k v hq), hput_self]; simp [gEnt, ht]
theorem pw_iastore {p n : Nat} {i x : Int32} (hd : decode cc pc = .ok (.iastore, 1)) (hS : S[p]? = some (.inl (0, n))) (hin : vp_in i n)
    (kk : PW l G cc own nL ret hh R CX E (pc + 1) L rest S ad (hput h p i.toNatClampNeg x) cells slots) : PW l G cc own nL ret hh R CX E pc L (.int x :: .int i :: .ref (ad p) :: rest) S ad h cells slots := by
  intro p' e s m args below meth c A H locs ls F hP hD hS' hl'
  obtain ⟨⟨hx, hb, hml, hown, hts⟩, hr, hlk, htab, hA, hE, hcx⟩ := id F
  refine va_iast hx hb hE.1 hP hD hS' p 0 (gW_at hS) rfl hin hd (fun H1 locs1 g1 g2 g3 => ?_)
  rw [aput_W hS (fun _ => rfl)] at g1 g2
  exact kk p' e s m args below meth c A H1 locs1 ls F g1 g2 g3 hl'
theorem pw_castore {p n : Nat} {i x : Int32} (hd : decode cc pc = .ok (.castore, 1)) (hS : S[p]? = some (.inl (1, n))) (hin : vp_in i n)
    (kk : PW l G cc own nL ret hh R CX E (pc + 1) L rest S ad (hput h p i.toNatClampNeg (vp_nar .char x)) cells slots) : PW l G cc own nL ret hh R CX E pc L (.int x :: .int i :: .ref (ad p) :: rest) S ad h cells slots := by
  intro p' e s m args below meth c A H locs ls F hP hD hS' hl'
  obtain ⟨⟨hx, hb, hml, hown, hts⟩, hr, hlk, htab, hA, hE, hcx⟩ := id F
  refine va_cast hx hb hE.1 hP hD hS' p 1 (gW_at hS) rfl hin hd (fun H1 locs1 g1 g2 g3 => ?_)
  rw [aput_W hS (fun _ => rfl)] at g1 g2
  exact kk p' e s m args below meth c A H1 locs1 ls F g1 g2 g3 hl'
theorem pw_alen {p t n : Nat} (hd : decode cc pc = .ok (.arraylength, 1)) (hS : S[p]? = some (.inl (t, n))) (ht : t = 0 ∨ t = 1)
    (kk : PW l G cc own nL ret hh R CX E (pc + 1) L (.int (nI n) :: rest) S ad h cells slots) : PW l G cc own nL ret hh R CX E pc L (.ref (ad p) :: rest) S ad h cells slots := by
  intro p' e s m args below meth c A H locs ls F hP hD hS' hl'
  obtain ⟨⟨hx, hb, hml, hown, hts⟩, hr, hlk, htab, hA, hE, hcx⟩ := id F
  have kk' := kk p' e s m args below meth c A H locs ls F hP hD hS' hl'
  have hat := gW_at (ad := ad) (tyC := G.2.1) (h := h) hS
  rcases ht with rfl | rfl
  · exact va_alen hx hb hE.1 hP p 0 hat rfl rfl hd kk'
  · exact va_alen hx hb hE.1 hP p 1 hat rfl rfl hd kk'
end PWH
/-! CONTRACTS -/
theorem gE_same {G : GC} {A : Nat → Prop} {u U : State} {H : Heap} (hvm : U.vm = u.vm) (h : gE G A u H) : gE G A U H := by
  obtain ⟨h1, h2, h3, h4, h5⟩ := h
  have ha : u.vm.Alike U.vm := by rw [hvm]; exact Vm.Alike.refl _
  exact ⟨h1.moved ha, fun w hw => (h2 w hw).same (gNL_on hw) hvm.symm, fun k q hk => (h3 k q hk).same hvm, h4.moved ha, h5.moved ha⟩
theorem gE_on {G : GC} {A B : Nat → Prop} {s U : State} {H0 H : Heap} {locs : List Loc} (hW : s.WarmedH U.vm) (h : gE G A s H0) (hS : va_S A H0 H locs) (hAB : ∀ q, B q → A q) : gE G B U H := by
  obtain ⟨h1, h2, h3, h4, h5⟩ := h
  exact ⟨h1.moved hW.alike, fun w hw => gNL_warm hW hw (h2 w hw), fun k q hk => (h3 k q hk).warm hW, ((h4.moved hW.alike).kept hS.2.1).narrow hAB, ((h5.moved hW.alike).kept hS.2.1).narrow hAB⟩
def gPc (G : GC) (ad : Nat → Nat) (S : List Sh) (h : HP) (sz : Nat) (avs : List Value) : Array Value → State → Prop :=
  va_Pc avs (fun U => U.heap.size = sz ∧ gE G (gA ad S sz) U U.heap ∧ va_P G.1 vwCl (gW ad G.2.1 S h) U.heap ∧ va_D (gA ad S sz) (gW ad G.2.1 S h))
abbrev gPost : Type := Option Value → List Sh → (Nat → Nat) → HP → Prop
def gQ (G : GC) (A : Nat → Prop) (Q : gPost) : Array Value → State → Outcome → State → Prop := fun _ st o t =>
  ∃ (v : Option Value) (S' : List Sh) (ad' : Nat → Nat) (h' : HP), o = .returned v ∧ Q v S' ad' h' ∧ va_P G.1 vwCl (gW ad' G.2.1 S' h') t.heap ∧ va_D A (gW ad' G.2.1 S' h') ∧ va_F A st t
def gX (G : GC) (A : Nat → Prop) (S : List Sh) (ad : Nat → Nat) (X : String → HP → Prop) : String → State → State → Prop := fun Ex st t =>
  ∃ h' : HP, X Ex h' ∧ va_P G.1 vwCl (gW ad G.2.1 S h') t.heap ∧ va_F A st t
def PM (l : Launch) (G : GC) (y : MethodName) (ccw : Cond) (rm : Room) (avs : List Value) (S : List Sh) (ad : Nat → Nat) (h : HP) (Q : gPost) (X : String → HP → Prop) : Prop :=
  ∀ sz : Nat, vx_Met l y (ccw :: gUW) rm (gPc G ad S h sz avs) (gQ G (gA ad S sz) Q) (gX G (gA ad S sz) S ad X) rm.cells rm.slots (gA ad S sz)
theorem gPc_blind {G : GC} {ad : Nat → Nat} {S : List Sh} {h : HP} {sz : Nat} {avs : List Value} : FrameBlind (gPc G ad S h sz avs) := by
  intro a U g mk q
  obtain ⟨q0, q1, q2, q3, q4⟩ := q
  exact ⟨q0, q1, gE_same (u := U) rfl q2, q3, q4⟩
def gME (G : GC) (S : List Sh) (ad : Nat → Nat) (Q : gPost) (X : String → HP → Prop) (mc ms : Nat) : gEnd := fun p e s m args below meth c A => vx_MQ below (gQ G A Q) (gX G A S ad X) args s mc ms A
def gNm (nm : String) : gCtx := fun _ _ meth _ => meth.name = nm
theorem gW_D {ad : Nat → Nat} {tyC : Nat → ClassId} {S : List Sh} {h : HP} {A : Nat → Prop} {sz : Nat} (hD : va_D A (gW ad tyC S h)) : va_D (gA ad S sz) (gW ad tyC S h) := by
  refine hD.weaken (fun k q hk _ => ?_)
  obtain ⟨sh, h1, h2⟩ := gW_inv hk
  exact Or.inl ⟨k, (List.getElem?_eq_some_iff.mp h1).1, by rw [h2]⟩
theorem gA_of {ad : Nat → Nat} {tyC : Nat → ClassId} {S : List Sh} {h : HP} {A : Nat → Prop} {sz : Nat} (hD : va_D A (gW ad tyC S h)) (hA : ∀ q, sz ≤ q → A q) : ∀ q, gA ad S sz q → A q := by
  rintro q (⟨k, hk, rfl⟩ | hq)
  · exact hD.2 k _ (gW_at (List.getElem?_eq_getElem hk))
  · exact hA q hq
/-- a method's contract by its body's walk -/
theorem PM.of {l : Launch} {G : GC} {y : MethodName} {cc : ByteArray} {nL : Nat} {ret : Option FieldType} {rm : Room} {avs : List Value} {S : List Sh} {ad : Nat → Nat} {h : HP} {Q : gPost} {X : String → HP → Prop}
    (hy : plainName y.cls = true) (h1 : ∀ v ∈ avs, v.category = 1) (hn : avs.length ≤ nL)
    (k : PW l G cc y.cls nL ret [] rm (gNm y.name) (gME G S ad Q X rm.cells rm.slots) 0 (avs.map some ++ List.replicate (nL - avs.length) none) [] S ad h 0 0) :
    PM l G y (.code y cc nL ret) rm avs S ad h Q X := by
  intro sz
  refine vx_ofW (cc := cc) (maxL := nL) (ret := ret) hy rfl ?_
  intro p e s m args below meth c s₁ B hml htb hv
  obtain ⟨rfl, hsz, hE, hP, hD⟩ := hv
  subst hsz
  have hts : ∀ w ∈ gUW, w.before avs.toArray s = true := fun w hw => atoms_spec (ws := Cond.code y cc nL ret :: gUW) B.pre w (List.mem_cons_of_mem _ hw)
  have hl := gL_entry avs (n := nL) h1 hn
  rw [lg_entry_eq]
  have htb' : c.exceptionTable.toList = tableOf [] := by
    cases hc : c.exceptionTable.toList with
    | nil => rfl
    | cons a b => exact (htb a (by rw [hc]; exact List.mem_cons_self)).elim
  exact k p e s m _ below meth c (gA ad S s.heap.size) s.heap [] _ ⟨⟨B.exec, B.bytes, hml, findClass_of_methodNamed B.named, hts⟩, B.returns, B.notSynchronized, htb', fun q hq => Or.inr hq, hE, (name_of_methodNamed B.named B.method).1⟩ hP hD va_S.rf hl
/-- what the tables say of a method -/
def gMI (y : MethodName) (cc : ByteArray) (nL : Nat) (ret : Option FieldType) (n : Nat) : Prop := Cond.code y cc nL ret ∈ gUW ∧ Cond.initialized y.cls ∈ gUW ∧
  (y.cls ≠ "java/lang/invoke/MethodHandle" ∧ y.cls ≠ "java/lang/invoke/VarHandle" ∧ (parseMethodDescriptor y.desc).map (fun d => d.parameters.length) = some n)
def gMV (y : MethodName) : Prop := Cond.instanceMethod y ∈ gUW ∧ Cond.selects y.cls y y ∈ gUW
def gML (own : String) (idx : Nat) (y : MethodName) : Prop := Cond.methodLink own idx y ∈ gUW ∨ ∃ host, Cond.methodLinkNest own idx y host ∈ gNL
section PWC
variable {l : Launch} {G : GC} {cc : ByteArray} {own : String} {nL : Nat} {ret : Option FieldType} {hh : List (Nat × Nat × Nat × Nat)} {R : Room} {CX : gCtx} {E : gEnd}
variable {pc : Nat} {L : List (Option Value)} {rest : List Value} {S : List Sh} {ad : Nat → Nat} {h : HP} {cells slots : Nat}
theorem gRun {p : Program} {e : Env} {s : State} {m : MethodId} {args : Array Value} {below : List Frame} {meth : Method} {c : Code} {A : Nat → Prop} {H : Heap} {locs : List Loc} {ls : Array Slot} {st0 : List Value} {mc ms : Nat} {a : Array Value} {Q : gPost} {X : String → HP → Prop}
    (hr : vx_Run p l e R s m args below meth c H locs cells slots mc ms (F0 m pc ls st0) rest (gQ G (gA ad S H.size) Q a) (gX G (gA ad S H.size) S ad X) (gA ad S H.size))
    (F : gF cc own nL ret hh G CX p s m args meth c A) (hD : va_D A (gW ad G.2.1 S h)) (hS' : va_S A s.heap H locs) (hl' : gL ls nL L)
    (kx : ∀ Ex h', X Ex h' → PX l G cc own nL ret hh R CX E pc L rest S ad h' (cells + mc) (slots + ms) Ex)
    (kk : ∀ v S' ad' h', Q v S' ad' h' → PW l G cc own nL ret hh R CX E (pc + 3) L (v.toList ++ rest) S' ad' h' (cells + mc) (slots + ms)) :
    W p l e R s m args below meth c H locs cells slots (E p e s m args below meth c A) (F0 m pc ls st0) := by
  have hA := F.2.2.2.2.1
  have hA1 : ∀ q, gA ad S H.size q → A q := gA_of hD (fun q hq => hA q (Nat.le_trans hS'.1 hq))
  intro T hT XX
  rcases hr T hT XX with ⟨v, st₀, t, T', L1, h0, X', hL, e1, e2, ⟨v', S', ad', h', hv, hq, hP1, hD1, hF⟩, st⟩ | ⟨q, st₀, t, T', L1, Ex, ce, h0, X', hL, e1, e2, ⟨h', hx, hP1, hF⟩, hce, hcv, hcl, st⟩
  · cases hv
    obtain ⟨k1, k2, k3⟩ := vx_keep h0 e1 hS' (fun q _ hq => hA1 q hq) (fun q hq => hA1 q hq) hL hF
    obtain ⟨t2, a1, b1⟩ := kk v S' ad' h' hq p e s m args below meth c A T'.heap (locs ++ L1) ls F (by rw [e1]; exact hP1) (hD1.weaken (fun _ _ _ hz => hA1 _ hz)) k3 hl' T' rfl X'
    exact ⟨t2, st t2 a1, b1⟩
  · obtain ⟨k1, k2, k3⟩ := vx_keep h0 e1 hS' (fun q _ hq => hA1 q hq) (fun q hq => hA1 q hq) hL hF
    have hD9 : va_D A (gW ad G.2.1 S h') := by
      refine ⟨fun i j x y hi hj hxy => ?_, fun k x hk => ?_⟩
      · obtain ⟨s1, g1, g2⟩ := gW_inv hi
        obtain ⟨s2, g3, g4⟩ := gW_inv hj
        exact hD.1 i j _ _ (gW_at g1) (gW_at g3) (by rw [g2, g4] at hxy; exact hxy)
      · obtain ⟨s1, g1, g2⟩ := gW_inv hk
        have g9 := hD.2 k _ (gW_at (ad := ad) (tyC := G.2.1) (h := h) g1)
        rw [g2]; exact g9
    obtain ⟨t2, a1, b1⟩ := kx Ex h' hx p e s m args below meth c A T'.heap (locs ++ L1) ls ce q F (by rw [e1]; exact hP1) hD9 k3 hl' (by rw [e1]; exact hce) hcv hcl T' rfl X'
    exact ⟨t2, st.trans a1, b1⟩
theorem gPcU {s U : State} {args : Array Value} {m : MethodId} {meth : Method} {c : Code} {p : Program} {A : Nat → Prop} {H : Heap} {locs : List Loc} {avs : List Value} (F : gF cc own nL ret hh G CX p s m args meth c A) (hP : va_P G.1 vwCl (gW ad G.2.1 S h) H) (hD : va_D A (gW ad G.2.1 S h)) (hS' : va_S A s.heap H locs) (hU : U.heap = H) (hW : s.WarmedH U.vm) :
    gPc G ad S h H.size avs avs.toArray U := by
  have hA := F.2.2.2.2.1
  refine ⟨rfl, by rw [hU], ?_, by rw [hU]; exact hP, gW_D hD⟩
  rw [hU]
  exact gE_on hW F.2.2.2.2.2.1 hS' (gA_of hD (fun q hq => hA q (Nat.le_trans hS'.1 hq)))
/-- invokevirtual, direct or to a nest mate -/
theorem pw_callV {idx n b ci : Nat} {y : MethodName} {cc1 : ByteArray} {nL1 : Nat} {ret1 : Option FieldType} {rm : Room} {avs st0 : List Value} {Q : gPost} {X : String → HP → Prop} {fs : List Fk} {r : vw_C}
    (hd : decode cc pc = .ok (.invokevirtual idx, 3)) (hM : PM l G y (.code y cc1 nL1 ret1) rm (.ref (ad b) :: avs) S ad h Q X) (hi : gMI y cc1 nL1 ret1 n) (hv : gMV y) (hk : gML own idx y)
    (hS : S[b]? = some (.inr (.inl (ci, fs)))) (hcl : vwCl[ci]? = some r) (hr1 : r.1 = y.cls) (hn : avs.length = n)
    (hR : rm.frames + 1 ≤ R.frames ∧ 8 + (nL1 + 11) + rm.locals ≤ R.locals) (hcs : cells + rm.cells ≤ R.cells ∧ slots + rm.slots ≤ R.slots)
    (hst : st0 = avs.reverse ++ .ref (ad b) :: rest) (hW : (rest.map fun v => v.category).sum ≤ 8)
    (kx : ∀ Ex h', X Ex h' → PX l G cc own nL ret hh R CX E pc L rest S ad h' (cells + rm.cells) (slots + rm.slots) Ex)
    (kk : ∀ v S' ad' h', Q v S' ad' h' → PW l G cc own nL ret hh R CX E (pc + 3) L (v.toList ++ rest) S' ad' h' (cells + rm.cells) (slots + rm.slots)) :
    PW l G cc own nL ret hh R CX E pc L st0 S ad h cells slots := by
  intro p e s m args below meth c A H locs ls F hP hD hS' hl'
  obtain ⟨⟨hx, hb, hml, hown, hts⟩, hr, hlk, htab, hA, hE, hcx⟩ := id F
  obtain ⟨hi1, hi2, hi3⟩ := hi
  have hG : GoodIn gUW (Cond.code y cc1 nL1 ret1 :: gUW) := gUW_in (fun w hw => (List.mem_cons.mp hw).elim (fun q => q ▸ hi1) id)
  have hp : PreV s H y.cls (ad b) (gPc G ad S h H.size (.ref (ad b) :: avs)) avs := ⟨gPc_blind, hr1 ▸ va_recv hE.1 hP hcl (gW_at hS), fun U hU hW => gPcU F hP hD hS' hU hW⟩
  subst hst
  refine gRun (st0 := avs.reverse ++ .ref (ad b) :: rest) (a := (Value.ref (ad b) :: avs).toArray) ?_ F hD hS' hl' kx kk
  rcases hk with hk | ⟨host, hk⟩
  · exact vx_runV ⟨hx, hb, hml, hown, hts⟩ (hM H.size) ⟨callB_of n hts hG rfl rfl rfl (hts _ hi2) (hts _ hk) hi3 hR, hts _ hv.1, hts _ hv.2⟩ hp rfl hn hl'.1 rfl (by show 2 * 0 + _ ≤ 8; omega) hd hcs
  · exact vx_runVN ⟨hx, hb, hml, hown, hts⟩ (hM H.size) ⟨va_cnB n hts hG rfl rfl rfl (hE.2.1 _ hk) (hts _ hi2) hi3 hR, hts _ hv.1, hts _ hv.2⟩ hp rfl hn hl'.1 rfl (by show 2 * 0 + _ ≤ 8; omega) hd hcs
theorem pw_callS {idx n : Nat} {y : MethodName} {cc1 : ByteArray} {nL1 : Nat} {ret1 : Option FieldType} {rm : Room} {avs st0 : List Value} {Q : gPost} {X : String → HP → Prop}
    (hd : decode cc pc = .ok (.invokestatic idx, 3)) (hM : PM l G y (.code y cc1 nL1 ret1) rm avs S ad h Q X) (hi : gMI y cc1 nL1 ret1 n) (hv : Cond.static y ∈ gUW) (hk : gML own idx y) (hn : avs.length = n)
    (hR : rm.frames + 1 ≤ R.frames ∧ 8 + (nL1 + 11) + rm.locals ≤ R.locals) (hcs : cells + rm.cells ≤ R.cells ∧ slots + rm.slots ≤ R.slots)
    (hst : st0 = avs.reverse ++ rest) (hW : (rest.map fun v => v.category).sum ≤ 8)
    (kx : ∀ Ex h', X Ex h' → PX l G cc own nL ret hh R CX E pc L rest S ad h' (cells + rm.cells) (slots + rm.slots) Ex)
    (kk : ∀ v S' ad' h', Q v S' ad' h' → PW l G cc own nL ret hh R CX E (pc + 3) L (v.toList ++ rest) S' ad' h' (cells + rm.cells) (slots + rm.slots)) :
    PW l G cc own nL ret hh R CX E pc L st0 S ad h cells slots := by
  intro p e s m args below meth c A H locs ls F hP hD hS' hl'
  obtain ⟨⟨hx, hb, hml, hown, hts⟩, hr, hlk, htab, hA, hE, hcx⟩ := id F
  obtain ⟨hi1, hi2, hi3⟩ := hi
  have hG : GoodIn gUW (Cond.code y cc1 nL1 ret1 :: gUW) := gUW_in (fun w hw => (List.mem_cons.mp hw).elim (fun q => q ▸ hi1) id)
  have hp : PreS s H (gPc G ad S h H.size avs) avs := ⟨gPc_blind, fun U hU hW => gPcU F hP hD hS' hU hW⟩
  subst hst
  refine gRun (st0 := avs.reverse ++ rest) (a := avs.toArray) ?_ F hD hS' hl' kx kk
  rcases hk with hk | ⟨host, hk⟩
  · exact vx_runS ⟨hx, hb, hml, hown, hts⟩ (hM H.size) ⟨callB_of n hts hG rfl rfl rfl (hts _ hi2) (hts _ hk) hi3 hR, hts _ hv⟩ hp rfl hn hl'.1 rfl (by show 2 * 0 + _ ≤ 8; omega) hd hcs
  · exact vx_runSN ⟨hx, hb, hml, hown, hts⟩ (hM H.size) ⟨va_cnB n hts hG rfl rfl rfl (hE.2.1 _ hk) (hts _ hi2) hi3 hR, hts _ hv, trivial⟩ hp rfl hn hl'.1 rfl (by show 2 * 0 + _ ≤ 8; omega) hd hcs
/-- the ends -/
theorem pw_ireturn {v : Int32} {ty : FieldType} {S0 : List Sh} {ad0 : Nat → Nat} {Q : gPost} {X : String → HP → Prop} {mc ms : Nat} (hd : decode cc pc = .ok (.ireturn, 1)) (hret : ret = some ty) (hn : narrow ty (.int v) = .int v) (hc : cells ≤ mc) (hs : slots ≤ ms)
    (hq : Q (some (.int v)) S ad h) : PW l G cc own nL ret hh R CX (gME G S0 ad0 Q X mc ms) pc L [.int v] S ad h cells slots := by
  intro p e s m args below meth c A H locs ls F hP hD hS' hl'
  obtain ⟨⟨hx, hb, hml, hown, hts⟩, hr, hlk, htab, hA, hE, hcx⟩ := id F
  refine vx_ret (W.widen hc hs ?_)
  exact W.zret (ty := ty) hx hb (hr.trans hret) hn (fun t ht _ => ⟨_, S, ad, h, rfl, hq, by rw [ht]; exact hP, hD, hS'.F ht⟩) (fun q hq => hS'.2.2 q hq) hd hlk
theorem pw_return {S0 : List Sh} {ad0 : Nat → Nat} {Q : gPost} {X : String → HP → Prop} {mc ms : Nat} (hd : decode cc pc = .ok (.return_, 1)) (hret : ret = none) (hc : cells ≤ mc) (hs : slots ≤ ms)
    (hq : Q none S ad h) : PW l G cc own nL ret hh R CX (gME G S0 ad0 Q X mc ms) pc L [] S ad h cells slots := by
  intro p e s m args below meth c A H locs ls F hP hD hS' hl'
  obtain ⟨⟨hx, hb, hml, hown, hts⟩, hr, hlk, htab, hA, hE, hcx⟩ := id F
  refine vx_ret (W.widen hc hs ?_)
  exact W.vret hx hb (hr.trans hret) (fun t ht _ => ⟨_, S, ad, h, rfl, hq, by rw [ht]; exact hP, hD, hS'.F ht⟩) (fun q hq => hS'.2.2 q hq) hd hlk
theorem pw_areturn {q : Nat} {cn : String} {S0 : List Sh} {ad0 : Nat → Nat} {Q : gPost} {X : String → HP → Prop} {mc ms : Nat} (hd : decode cc pc = .ok (.areturn, 1)) (hret : ret = some (.object cn)) (hc : cells ≤ mc) (hs : slots ≤ ms)
    (hq : Q (some (.ref (ad q))) S ad h) : PW l G cc own nL ret hh R CX (gME G S0 ad0 Q X mc ms) pc L [.ref (ad q)] S ad h cells slots := by
  intro p e s m args below meth c A H locs ls F hP hD hS' hl'
  obtain ⟨⟨hx, hb, hml, hown, hts⟩, hr, hlk, htab, hA, hE, hcx⟩ := id F
  refine vx_ret (W.widen hc hs ?_)
  exact W.aret (rt := .object cn) hx hb (hr.trans hret) (Or.inl ⟨_, rfl⟩) (Or.inr ⟨_, rfl⟩) (fun t ht _ => ⟨_, S, ad, h, rfl, hq, by rw [ht]; exact hP, hD, hS'.F ht⟩) (fun q hq => hS'.2.2 q hq) hd hlk
theorem pw_dreturn {v : UInt64} {S0 : List Sh} {ad0 : Nat → Nat} {Q : gPost} {X : String → HP → Prop} {mc ms : Nat} (hd : decode cc pc = .ok (.dreturn, 1)) (hret : ret = some .double) (hc : cells ≤ mc) (hs : slots ≤ ms)
    (hq : Q (some (.double v)) S ad h) : PW l G cc own nL ret hh R CX (gME G S0 ad0 Q X mc ms) pc L [.double v] S ad h cells slots := by
  intro p e s m args below meth c A H locs ls F hP hD hS' hl'
  obtain ⟨⟨hx, hb, hml, hown, hts⟩, hr, hlk, htab, hA, hE, hcx⟩ := id F
  refine vx_ret (W.widen hc hs ?_)
  exact W.dret hx hb (hr.trans hret) (fun t ht _ => ⟨_, S, ad, h, rfl, hq, by rw [ht]; exact hP, hD, hS'.F ht⟩) (fun q hq => hS'.2.2 q hq) hd hlk
/-- what a callee throws leaves a method without handlers -/
theorem px_out {Ex : String} {st : List Value} {Q : gPost} {X : String → HP → Prop} {mc ms : Nat} (hhe : hh = []) (hX : X Ex h) (hc : cells ≤ mc) (hs : slots ≤ ms) : PX l G cc own nL ret hh R CX (gME G S ad Q X mc ms) pc L st S ad h cells slots Ex := by
  intro p e s m args below meth c A H locs ls ce q F hP hD hS' hl' hce hcv hcl
  obtain ⟨⟨hx, hb, hml, hown, hts⟩, hr, hlk, htab, hA, hE, hcx⟩ := id F
  subst hhe
  refine vx_outP hown hlk (fun z hz => ?_) hce hcv hcl (fun t ht ha => ⟨h, hX, by rw [ht]; exact hP, hS'.F ht⟩) (fun z hz => hS'.2.2 z hz) hc hs
  rw [htab] at hz; cases hz
end PWC
/-! more rows: throws, Math, copies -/
def gTW (own cls : String) (ik is ic k : Nat) (text : String) : Prop := Bundle.fit cls = true ∧ Cond.classLink own ik cls ∈ gUW ∧ Cond.initialized cls ∈ gUW ∧ gSt[k]? = some (own, is, text) ∧
  (∀ w ∈ vx_atS own ic cls ["java/lang/RuntimeException", "java/lang/Exception"], w ∈ gUW ∨ w ∈ gNL) ∧ (∀ w ∈ Cond.classLink own ik cls :: Cond.initialized cls :: vx_atS own ic cls ["java/lang/RuntimeException", "java/lang/Exception"], vx_ot w = true)
section PWM
variable {l : Launch} {G : GC} {cc : ByteArray} {own : String} {nL : Nat} {ret : Option FieldType} {hh : List (Nat × Nat × Nat × Nat)} {R : Room} {CX : gCtx} {E : gEnd}
variable {pc : Nat} {L : List (Option Value)} {rest : List Value} {S : List Sh} {ad : Nat → Nat} {h : HP} {cells slots : Nat}
theorem pw_throwS {cls text : String} {ik is ic k : Nat} {Q : gPost} {X : String → HP → Prop} {mc ms : Nat} (hl : l.stackTraces = false) (hT : gTW own cls ik is ic k text)
    (d0 : decode cc pc = .ok (.new ik, 3)) (d3 : decode cc (pc + 3) = .ok (.dup, 1)) (d4 : decode cc (pc + 4) = .ok (.ldc is, 2)) (d6 : decode cc (pc + 6) = .ok (.invokespecial ic, 3)) (d9 : decode cc (pc + 9) = .ok (.athrow, 1))
    (hhe : hh = []) (hR : 5 < R.frames ∧ (rest.map fun v => v.category).sum + 82 ≤ R.locals ∧ cells + 1 ≤ R.cells ∧ slots + 6 ≤ R.slots) (hX : X cls h) (hc : cells + 1 ≤ mc) (hs : slots + 6 ≤ ms) :
    PW l G cc own nL ret hh R CX (gME G S ad Q X mc ms) pc L rest S ad h cells slots := by
  intro p e s m args below meth c A H locs ls F hP hD hS' hl'
  obtain ⟨⟨hx, hb, hml, hown, hts⟩, hr, hlk, htab, hA, hE, hcx⟩ := id F
  obtain ⟨t1, t2, t3, t4, t5, t6⟩ := hT
  subst hhe
  refine vx_throwS (A := A) hx hb hl hown t1 (by decide +kernel) (hts _ t2) (hts _ t3) (hE.2.2.1 _ _ t4) (fun w hw => (t5 w hw).elim (fun q => hts _ q) (fun q => va_Nw.use (gNL_on q) (hE.2.1 _ q))) t6 hE.2.2.2.1 hE.2.2.2.2 hS' (by rw [hl'.1, hml]) d0 d3 d4 d6 d9
    (fun x hx9 => by rw [htab] at hx9; cases hx9) hR.1 hR.2.1 hR.2.2.1 hR.2.2.2 hlk (fun t _ hz hk => ⟨h, hX, hP.kept (fun k q hq => hk _ (hP k q hq).lt), ?_⟩) (fun z hz => hS'.2.2 z hz) hc hs
  exact ⟨Nat.le_trans hS'.1 hz, fun q h1 h2 => by rw [hk q (Nat.lt_of_lt_of_le h1 hS'.1)]; exact hS'.2.1 q h1 h2⟩
theorem pw_throwSW {cls text : String} {ik is ic k : Nat} {Q : gPost} {X : String → HP → Prop} {mc ms : Nat} (hl : l.stackTraces = false) (hT : gTW own cls ik is ic k text)
    (d0 : decode cc pc = .ok (.new ik, 3)) (d3 : decode cc (pc + 3) = .ok (.dup, 1)) (d4 : decode cc (pc + 4) = .ok (.ldc_w is, 3)) (d7 : decode cc (pc + 7) = .ok (.invokespecial ic, 3)) (d10 : decode cc (pc + 10) = .ok (.athrow, 1))
    (hhe : hh = []) (hR : 5 < R.frames ∧ (rest.map fun v => v.category).sum + 82 ≤ R.locals ∧ cells + 1 ≤ R.cells ∧ slots + 6 ≤ R.slots) (hX : X cls h) (hc : cells + 1 ≤ mc) (hs : slots + 6 ≤ ms) :
    PW l G cc own nL ret hh R CX (gME G S ad Q X mc ms) pc L rest S ad h cells slots := by
  intro p e s m args below meth c A H locs ls F hP hD hS' hl'
  obtain ⟨⟨hx, hb, hml, hown, hts⟩, hr, hlk, htab, hA, hE, hcx⟩ := id F
  obtain ⟨t1, t2, t3, t4, t5, t6⟩ := hT
  subst hhe
  refine vx_throwSW (A := A) hx hb hl hown t1 (by decide +kernel) (hts _ t2) (hts _ t3) (hE.2.2.1 _ _ t4) (fun w hw => (t5 w hw).elim (fun q => hts _ q) (fun q => va_Nw.use (gNL_on q) (hE.2.1 _ q))) t6 hE.2.2.2.1 hE.2.2.2.2 hS' (by rw [hl'.1, hml]) d0 d3 d4 d7 d10
    (fun x hx9 => by rw [htab] at hx9; cases hx9) hR.1 hR.2.1 hR.2.2.1 hR.2.2.2 hlk (fun t _ hz hk => ⟨h, hX, hP.kept (fun k q hq => hk _ (hP k q hq).lt), ?_⟩) (fun z hz => hS'.2.2 z hz) hc hs
  exact ⟨Nat.le_trans hS'.1 hz, fun q h1 h2 => by rw [hk q (Nat.lt_of_lt_of_le h1 hS'.1)]; exact hS'.2.1 q h1 h2⟩
def gMM (y : MethodName) (cc1 : ByteArray) : Prop := Cond.static y ∈ gUW ∧ Cond.initialized "java/lang/Math" ∈ gUW ∧ Cond.code y cc1 2 (some .int) ∈ gUW
theorem pw_max {idx : Nat} {x y : Int32} (hd : decode cc pc = .ok (.invokestatic idx, 3)) (hk : Cond.methodLink own idx Lib.Math.max.name ∈ gUW) (hw : Cond.static Lib.Math.max.name ∈ gUW ∧ Cond.initialized "java/lang/Math" ∈ gUW ∧ Cond.code Lib.Math.max.name Lib.Math.max.code 2 (some .int) ∈ gUW)
    (hR : 1 ≤ R.frames ∧ (rest.map fun v => v.category).sum + 13 ≤ R.locals ∧ cells ≤ R.cells ∧ slots ≤ R.slots)
    (k : PW l G cc own nL ret hh R CX E (pc + 3) L (.int (if x < y then y else x) :: rest) S ad h cells slots) : PW l G cc own nL ret hh R CX E pc L (.int y :: .int x :: rest) S ad h cells slots := by
  intro p e s m args below meth c A H locs ls F hP hD hS' hl'
  obtain ⟨⟨hx, hb, hml, hown, hts⟩, hr, hlk, htab, hA, hE, hcx⟩ := id F
  exact va_mmax hx hb (by rw [hml, hl'.1]) hown (hts _ hk) (hts _ hw.1) (hts _ hw.2.1) (hts _ hw.2.2) hR.1 hR.2.1 hR.2.2.1 hR.2.2.2 hd (k p e s m args below meth c A H locs ls F hP hD hS' hl')
theorem pw_min {idx : Nat} {x y : Int32} (hd : decode cc pc = .ok (.invokestatic idx, 3)) (hk : Cond.methodLink own idx Lib.Math.min.name ∈ gUW) (hw : Cond.static Lib.Math.min.name ∈ gUW ∧ Cond.initialized "java/lang/Math" ∈ gUW ∧ Cond.code Lib.Math.min.name Lib.Math.min.code 2 (some .int) ∈ gUW)
    (hR : 1 ≤ R.frames ∧ (rest.map fun v => v.category).sum + 13 ≤ R.locals ∧ cells ≤ R.cells ∧ slots ≤ R.slots)
    (k : PW l G cc own nL ret hh R CX E (pc + 3) L (.int (if y < x then y else x) :: rest) S ad h cells slots) : PW l G cc own nL ret hh R CX E pc L (.int y :: .int x :: rest) S ad h cells slots := by
  intro p e s m args below meth c A H locs ls F hP hD hS' hl'
  obtain ⟨⟨hx, hb, hml, hown, hts⟩, hr, hlk, htab, hA, hE, hcx⟩ := id F
  exact va_mmin hx hb (by rw [hml, hl'.1]) hown (hts _ hk) (hts _ hw.1) (hts _ hw.2.1) (hts _ hw.2.2) hR.1 hR.2.1 hR.2.2.1 hR.2.2.2 hd (k p e s m args below meth c A H locs ls F hP hD hS' hl')
theorem pw_ifnull {q : Nat} {off : Int} (hd : decode cc pc = .ok (.ifnull off, 3)) (k : PW l G cc own nL ret hh R CX E (pc + 3) L rest S ad h cells slots) : PW l G cc own nL ret hh R CX E pc L (.ref (ad q) :: rest) S ad h cells slots := by
  intro p e s m args below meth c A H locs ls F hP hD hS' hl'
  obtain ⟨⟨hx, hb, hml, hown, hts⟩, hr, hlk, htab, hA, hE, hcx⟩ := id F
  exact lv_ifnull hx hb hd (k p e s m args below meth c A H locs ls F hP hD hS' hl')
end PWM
/-! CALLS whose answer is one value, and the world behind it one: for methods that don't throw -/
def gRm (rm R : Room) (nL1 cells slots : Nat) : Bool := Nat.ble (rm.frames + 1) R.frames && (Nat.ble (8 + (nL1 + 11) + rm.locals) R.locals && (Nat.ble (cells + rm.cells) R.cells && Nat.ble (slots + rm.slots) R.slots))
theorem gRm_spec {rm R : Room} {nL1 cells slots : Nat} (h : gRm rm R nL1 cells slots = true) : (rm.frames + 1 ≤ R.frames ∧ 8 + (nL1 + 11) + rm.locals ≤ R.locals) ∧ (cells + rm.cells ≤ R.cells ∧ slots + rm.slots ≤ R.slots) := by
  simp only [gRm, Bool.and_eq_true] at h
  exact ⟨⟨Nat.le_of_ble_eq_true h.1, Nat.le_of_ble_eq_true h.2.1⟩, Nat.le_of_ble_eq_true h.2.2.1, Nat.le_of_ble_eq_true h.2.2.2⟩
def gCat (st : List Value) : Bool := Nat.ble (st.map fun v => v.category).sum 8
theorem gCat_spec {st : List Value} (h : gCat st = true) : (st.map fun v => v.category).sum ≤ 8 := Nat.le_of_ble_eq_true h
def gR (S : List Sh) (ad : Nat → Nat) (v : Option Value) (h1 : HP) : gPost := fun v' S' ad' h' => v' = v ∧ S' = S ∧ ad' = ad ∧ h' = h1
def gNo : String → HP → Prop := fun _ _ => False
/-- a method that answers v and leaves h1 -/
def PF (l : Launch) (G : GC) (y : MethodName) (ccw : Cond) (rm : Room) (avs : List Value) (S : List Sh) (ad : Nat → Nat) (h : HP) (v : Option Value) (h1 : HP) : Prop := PM l G y ccw rm avs S ad h (gR S ad v h1) gNo
/-- a method that answers v and leaves h1, or throws Ex and leaves h1 -/
def gRX (S : List Sh) (ad : Nat → Nat) (o : Option Value ⊕ String) (h1 : HP) : gPost := fun v' S' ad' h' => o = .inl v' ∧ S' = S ∧ ad' = ad ∧ h' = h1
def gXX (o : Option Value ⊕ String) (h1 : HP) : String → HP → Prop := fun Ex h' => o = .inr Ex ∧ h' = h1
def PT (l : Launch) (G : GC) (y : MethodName) (ccw : Cond) (rm : Room) (avs : List Value) (S : List Sh) (ad : Nat → Nat) (h : HP) (o : Option Value ⊕ String) (h1 : HP) : Prop := PM l G y ccw rm avs S ad h (gRX S ad o h1) (gXX o h1)
section PWF
variable {l : Launch} {G : GC} {cc : ByteArray} {own : String} {nL : Nat} {ret : Option FieldType} {hh : List (Nat × Nat × Nat × Nat)} {R : Room} {CX : gCtx} {E : gEnd}
variable {pc : Nat} {L : List (Option Value)} {rest : List Value} {S : List Sh} {ad : Nat → Nat} {h : HP} {cells slots : Nat}
theorem pw_cV {idx n b ci : Nat} {y : MethodName} {cc1 : ByteArray} {nL1 : Nat} {ret1 : Option FieldType} {rm : Room} {avs st0 : List Value} {v : Value} {h1 : HP} {fs : List Fk} {r : vw_C}
    (hd : decode cc pc = .ok (.invokevirtual idx, 3)) (hM : PF l G y (.code y cc1 nL1 ret1) rm (.ref (ad b) :: avs) S ad h (some v) h1) (hi : gMI y cc1 nL1 ret1 n) (hv : gMV y) (hk : gML own idx y)
    (hS : S[b]? = some (.inr (.inl (ci, fs)))) (hcl : vwCl[ci]? = some r) (hr1 : r.1 = y.cls) (hn : avs.length = n)
    (hR : gRm rm R nL1 cells slots = true) (hc0 : rm.cells = 0 ∧ rm.slots = 0) (hst : st0 = avs.reverse ++ .ref (ad b) :: rest) (hW : gCat rest = true)
    (kk : PW l G cc own nL ret hh R CX E (pc + 3) L (v :: rest) S ad h1 cells slots) : PW l G cc own nL ret hh R CX E pc L st0 S ad h cells slots := by
  obtain ⟨r1, r2⟩ := gRm_spec hR
  refine pw_callV hd hM hi hv hk hS hcl hr1 hn r1 r2 hst (gCat_spec hW) (fun _ _ q => q.elim) (fun v' S' ad' h' q => ?_)
  obtain ⟨rfl, rfl, rfl, rfl⟩ := q
  rw [hc0.1, hc0.2]; exact kk
theorem pw_cVn {idx n b ci : Nat} {y : MethodName} {cc1 : ByteArray} {nL1 : Nat} {ret1 : Option FieldType} {rm : Room} {avs st0 : List Value} {h1 : HP} {fs : List Fk} {r : vw_C}
    (hd : decode cc pc = .ok (.invokevirtual idx, 3)) (hM : PF l G y (.code y cc1 nL1 ret1) rm (.ref (ad b) :: avs) S ad h none h1) (hi : gMI y cc1 nL1 ret1 n) (hv : gMV y) (hk : gML own idx y)
    (hS : S[b]? = some (.inr (.inl (ci, fs)))) (hcl : vwCl[ci]? = some r) (hr1 : r.1 = y.cls) (hn : avs.length = n)
    (hR : gRm rm R nL1 cells slots = true) (hc0 : rm.cells = 0 ∧ rm.slots = 0) (hst : st0 = avs.reverse ++ .ref (ad b) :: rest) (hW : gCat rest = true)
    (kk : PW l G cc own nL ret hh R CX E (pc + 3) L rest S ad h1 cells slots) : PW l G cc own nL ret hh R CX E pc L st0 S ad h cells slots := by
  obtain ⟨r1, r2⟩ := gRm_spec hR
  refine pw_callV hd hM hi hv hk hS hcl hr1 hn r1 r2 hst (gCat_spec hW) (fun _ _ q => q.elim) (fun v' S' ad' h' q => ?_)
  obtain ⟨rfl, rfl, rfl, rfl⟩ := q
  rw [hc0.1, hc0.2]; exact kk
theorem pw_cS {idx n : Nat} {y : MethodName} {cc1 : ByteArray} {nL1 : Nat} {ret1 : Option FieldType} {rm : Room} {avs st0 : List Value} {v : Value} {h1 : HP}
    (hd : decode cc pc = .ok (.invokestatic idx, 3)) (hM : PF l G y (.code y cc1 nL1 ret1) rm avs S ad h (some v) h1) (hi : gMI y cc1 nL1 ret1 n) (hv : Cond.static y ∈ gUW) (hk : gML own idx y) (hn : avs.length = n)
    (hR : gRm rm R nL1 cells slots = true) (hc0 : rm.cells = 0 ∧ rm.slots = 0) (hst : st0 = avs.reverse ++ rest) (hW : gCat rest = true)
    (kk : PW l G cc own nL ret hh R CX E (pc + 3) L (v :: rest) S ad h1 cells slots) : PW l G cc own nL ret hh R CX E pc L st0 S ad h cells slots := by
  obtain ⟨r1, r2⟩ := gRm_spec hR
  refine pw_callS hd hM hi hv hk hn r1 r2 hst (gCat_spec hW) (fun _ _ q => q.elim) (fun v' S' ad' h' q => ?_)
  obtain ⟨rfl, rfl, rfl, rfl⟩ := q
  rw [hc0.1, hc0.2]; exact kk
/-- a callee that may throw: its outcome o decides -/
theorem pw_tV {idx n b ci : Nat} {y : MethodName} {cc1 : ByteArray} {nL1 : Nat} {ret1 : Option FieldType} {rm : Room} {avs st0 : List Value} {o : Option Value ⊕ String} {h1 : HP} {fs : List Fk} {r : vw_C}
    (hd : decode cc pc = .ok (.invokevirtual idx, 3)) (hM : PT l G y (.code y cc1 nL1 ret1) rm (.ref (ad b) :: avs) S ad h o h1) (hi : gMI y cc1 nL1 ret1 n) (hv : gMV y) (hk : gML own idx y)
    (hS : S[b]? = some (.inr (.inl (ci, fs)))) (hcl : vwCl[ci]? = some r) (hr1 : r.1 = y.cls) (hn : avs.length = n)
    (hR : gRm rm R nL1 cells slots = true) (hst : st0 = avs.reverse ++ .ref (ad b) :: rest) (hW : gCat rest = true)
    (kx : ∀ Ex, o = .inr Ex → PX l G cc own nL ret hh R CX E pc L rest S ad h1 (cells + rm.cells) (slots + rm.slots) Ex)
    (kk : ∀ v, o = .inl v → PW l G cc own nL ret hh R CX E (pc + 3) L (v.toList ++ rest) S ad h1 (cells + rm.cells) (slots + rm.slots)) : PW l G cc own nL ret hh R CX E pc L st0 S ad h cells slots := by
  obtain ⟨r1, r2⟩ := gRm_spec hR
  refine pw_callV hd hM hi hv hk hS hcl hr1 hn r1 r2 hst (gCat_spec hW) (fun Ex h' q => ?_) (fun v' S' ad' h' q => ?_)
  · obtain ⟨q1, rfl⟩ := q
    exact kx Ex q1
  · obtain ⟨q1, rfl, rfl, rfl⟩ := q
    exact kk v' q1
theorem pw_tS {idx n : Nat} {y : MethodName} {cc1 : ByteArray} {nL1 : Nat} {ret1 : Option FieldType} {rm : Room} {avs st0 : List Value} {o : Option Value ⊕ String} {h1 : HP}
    (hd : decode cc pc = .ok (.invokestatic idx, 3)) (hM : PT l G y (.code y cc1 nL1 ret1) rm avs S ad h o h1) (hi : gMI y cc1 nL1 ret1 n) (hv : Cond.static y ∈ gUW) (hk : gML own idx y) (hn : avs.length = n)
    (hR : gRm rm R nL1 cells slots = true) (hst : st0 = avs.reverse ++ rest) (hW : gCat rest = true)
    (kx : ∀ Ex, o = .inr Ex → PX l G cc own nL ret hh R CX E pc L rest S ad h1 (cells + rm.cells) (slots + rm.slots) Ex)
    (kk : ∀ v, o = .inl v → PW l G cc own nL ret hh R CX E (pc + 3) L (v.toList ++ rest) S ad h1 (cells + rm.cells) (slots + rm.slots)) : PW l G cc own nL ret hh R CX E pc L st0 S ad h cells slots := by
  obtain ⟨r1, r2⟩ := gRm_spec hR
  refine pw_callS hd hM hi hv hk hn r1 r2 hst (gCat_spec hW) (fun Ex h' q => ?_) (fun v' S' ad' h' q => ?_)
  · obtain ⟨q1, rfl⟩ := q
    exact kx Ex q1
  · obtain ⟨q1, rfl, rfl, rfl⟩ := q
    exact kk v' q1
theorem PF.of {y : MethodName} {cc : ByteArray} {nL : Nat} {ret : Option FieldType} {rm : Room} {avs : List Value} {v : Option Value} {h1 : HP}
    (hy : plainName y.cls = true) (h1' : ∀ v ∈ avs, v.category = 1) (hn : avs.length ≤ nL)
    (k : PW l G cc y.cls nL ret [] rm (gNm y.name) (gME G S ad (gR S ad v h1) gNo rm.cells rm.slots) 0 (avs.map some ++ List.replicate (nL - avs.length) none) [] S ad h 0 0) :
    PF l G y (.code y cc nL ret) rm avs S ad h v h1 := PM.of hy h1' hn k
theorem PT.of {y : MethodName} {cc : ByteArray} {nL : Nat} {ret : Option FieldType} {rm : Room} {avs : List Value} {o : Option Value ⊕ String} {h1 : HP}
    (hy : plainName y.cls = true) (h1' : ∀ v ∈ avs, v.category = 1) (hn : avs.length ≤ nL)
    (k : PW l G cc y.cls nL ret [] rm (gNm y.name) (gME G S ad (gRX S ad o h1) (gXX o h1) rm.cells rm.slots) 0 (avs.map some ++ List.replicate (nL - avs.length) none) [] S ad h 0 0) :
    PT l G y (.code y cc nL ret) rm avs S ad h o h1 := PM.of hy h1' hn k
theorem pw_heq {st : List Value} {E : gEnd} {h' : HP} (e : h = h') (k : PW l G cc own nL ret hh R CX E pc L st S ad h' cells slots) : PW l G cc own nL ret hh R CX E pc L st S ad h cells slots := e ▸ k
theorem pw_leq {st : List Value} {E : gEnd} {L' : List (Option Value)} (e : L = L') (k : PW l G cc own nL ret hh R CX E pc L' st S ad h cells slots) : PW l G cc own nL ret hh R CX E pc L st S ad h cells slots := e ▸ k
/-- fewer locals are known -/
theorem pw_forget {st : List Value} {E : gEnd} {L' : List (Option Value)} (hL : ∀ (i : Nat) (v : Value), L'[i]? = some (some v) → L[i]? = some (some v)) (k : PW l G cc own nL ret hh R CX E pc L' st S ad h cells slots) : PW l G cc own nL ret hh R CX E pc L st S ad h cells slots := by
  intro p e s m args below meth c A H locs ls F hP hD hS' hl'
  exact k p e s m args below meth c A H locs ls F hP hD hS' ⟨hl'.1, hl'.2.1, fun i v hv => hl'.2.2 i v (hL i v hv)⟩
end PWF
end
