-- ===== PART A: goes FIRST, ahead of the names: the tables' words, and 'selects' of the private methods out of them =====
/-- a private method of a class that the tables say can be made, by its rows of tables_1 -/
def lw_okq (q : MethodName × Nat) : Prop := (q.1.cls ≠ "java/lang/invoke/MethodHandle" ∧ q.1.cls ≠ "java/lang/invoke/VarHandle") ∧ Cond.instantiable q.1.cls q.2 ∈ tables_1 ∧ Cond.privateMethod q.1 ∈ tables_1 ∧ Cond.instanceMethod q.1 ∈ tables_1
theorem lw_p0 : lw_okq (⟨"KingdomSurvey", "refuse", "(I)I"⟩, 10) := ⟨⟨by decide +kernel, by decide +kernel⟩, List.mem_of_getElem? (i := 23) (by decide +kernel), List.mem_of_getElem? (i := 292) (by decide +kernel), List.mem_of_getElem? (i := 293) (by decide +kernel)⟩
theorem lw_p1 : lw_okq (⟨"KingdomSurvey", "allow", "(I)I"⟩, 10) := ⟨⟨by decide +kernel, by decide +kernel⟩, List.mem_of_getElem? (i := 23) (by decide +kernel), List.mem_of_getElem? (i := 296) (by decide +kernel), List.mem_of_getElem? (i := 297) (by decide +kernel)⟩
theorem lw_p2 : lw_okq (⟨"KingdomSurvey$Tape", "hasRoomFor", "(I)Z"⟩, 2) := ⟨⟨by decide +kernel, by decide +kernel⟩, List.mem_of_getElem? (i := 31) (by decide +kernel), List.mem_of_getElem? (i := 304) (by decide +kernel), List.mem_of_getElem? (i := 305) (by decide +kernel)⟩
theorem lw_p3 : lw_okq (⟨"KingdomSurvey$Tape", "append", "(I)V"⟩, 2) := ⟨⟨by decide +kernel, by decide +kernel⟩, List.mem_of_getElem? (i := 31) (by decide +kernel), List.mem_of_getElem? (i := 308) (by decide +kernel), List.mem_of_getElem? (i := 309) (by decide +kernel)⟩
theorem lw_p4 : lw_okq (⟨"KingdomSurvey", "isHundred", "(I)Z"⟩, 10) := ⟨⟨by decide +kernel, by decide +kernel⟩, List.mem_of_getElem? (i := 23) (by decide +kernel), List.mem_of_getElem? (i := 317) (by decide +kernel), List.mem_of_getElem? (i := 318) (by decide +kernel)⟩
theorem lw_p5 : lw_okq (⟨"KingdomSurvey$Tape", "hasFirst", "(I)Z"⟩, 2) := ⟨⟨by decide +kernel, by decide +kernel⟩, List.mem_of_getElem? (i := 31) (by decide +kernel), List.mem_of_getElem? (i := 321) (by decide +kernel), List.mem_of_getElem? (i := 322) (by decide +kernel)⟩
theorem lw_p6 : lw_okq (⟨"KingdomSurvey$Names", "troubleWith", "(LKingdomSurvey$Tape;I)I"⟩, 4) := ⟨⟨by decide +kernel, by decide +kernel⟩, List.mem_of_getElem? (i := 52) (by decide +kernel), List.mem_of_getElem? (i := 328) (by decide +kernel), List.mem_of_getElem? (i := 329) (by decide +kernel)⟩
theorem lw_p7 : lw_okq (⟨"KingdomSurvey$Tape", "signAt", "(I)I"⟩, 2) := ⟨⟨by decide +kernel, by decide +kernel⟩, List.mem_of_getElem? (i := 31) (by decide +kernel), List.mem_of_getElem? (i := 335) (by decide +kernel), List.mem_of_getElem? (i := 336) (by decide +kernel)⟩
theorem lw_p8 : lw_okq (⟨"KingdomSurvey$Tape", "byteAt", "(I)I"⟩, 2) := ⟨⟨by decide +kernel, by decide +kernel⟩, List.mem_of_getElem? (i := 31) (by decide +kernel), List.mem_of_getElem? (i := 339) (by decide +kernel), List.mem_of_getElem? (i := 340) (by decide +kernel)⟩
theorem lw_p9 : lw_okq (⟨"KingdomSurvey$Names", "numberOf", "(LKingdomSurvey$Tape;II)I"⟩, 4) := ⟨⟨by decide +kernel, by decide +kernel⟩, List.mem_of_getElem? (i := 52) (by decide +kernel), List.mem_of_getElem? (i := 343) (by decide +kernel), List.mem_of_getElem? (i := 344) (by decide +kernel)⟩
theorem lw_p10 : lw_okq (⟨"KingdomSurvey$Names", "isSpelled", "(ILKingdomSurvey$Tape;I)Z"⟩, 4) := ⟨⟨by decide +kernel, by decide +kernel⟩, List.mem_of_getElem? (i := 52) (by decide +kernel), List.mem_of_getElem? (i := 347) (by decide +kernel), List.mem_of_getElem? (i := 348) (by decide +kernel)⟩
theorem lw_p11 : lw_okq (⟨"KingdomSurvey$Villages", "enter", "(LKingdomSurvey$Tape;III)V"⟩, 3) := ⟨⟨by decide +kernel, by decide +kernel⟩, List.mem_of_getElem? (i := 46) (by decide +kernel), List.mem_of_getElem? (i := 352) (by decide +kernel), List.mem_of_getElem? (i := 353) (by decide +kernel)⟩
theorem lw_p12 : lw_okq (⟨"KingdomSurvey$Names", "write", "(LKingdomSurvey$Tape;I)I"⟩, 4) := ⟨⟨by decide +kernel, by decide +kernel⟩, List.mem_of_getElem? (i := 52) (by decide +kernel), List.mem_of_getElem? (i := 356) (by decide +kernel), List.mem_of_getElem? (i := 357) (by decide +kernel)⟩
theorem lw_p13 : lw_okq (⟨"KingdomSurvey$Villages", "has", "(I)Z"⟩, 3) := ⟨⟨by decide +kernel, by decide +kernel⟩, List.mem_of_getElem? (i := 46) (by decide +kernel), List.mem_of_getElem? (i := 360) (by decide +kernel), List.mem_of_getElem? (i := 361) (by decide +kernel)⟩
theorem lw_p14 : lw_okq (⟨"KingdomSurvey", "answerNamed", "(LKingdomSurvey$Names;I)I"⟩, 10) := ⟨⟨by decide +kernel, by decide +kernel⟩, List.mem_of_getElem? (i := 23) (by decide +kernel), List.mem_of_getElem? (i := 364) (by decide +kernel), List.mem_of_getElem? (i := 365) (by decide +kernel)⟩
theorem lw_p15 : lw_okq (⟨"KingdomSurvey$Tape", "clear", "()V"⟩, 2) := ⟨⟨by decide +kernel, by decide +kernel⟩, List.mem_of_getElem? (i := 31) (by decide +kernel), List.mem_of_getElem? (i := 368) (by decide +kernel), List.mem_of_getElem? (i := 369) (by decide +kernel)⟩
def lw_privs_1 : List (MethodName × Nat) := [(⟨"KingdomSurvey", "refuse", "(I)I"⟩, 10), (⟨"KingdomSurvey", "allow", "(I)I"⟩, 10), (⟨"KingdomSurvey$Tape", "hasRoomFor", "(I)Z"⟩, 2), (⟨"KingdomSurvey$Tape", "append", "(I)V"⟩, 2), (⟨"KingdomSurvey", "isHundred", "(I)Z"⟩, 10), (⟨"KingdomSurvey$Tape", "hasFirst", "(I)Z"⟩, 2), (⟨"KingdomSurvey$Names", "troubleWith", "(LKingdomSurvey$Tape;I)I"⟩, 4), (⟨"KingdomSurvey$Tape", "signAt", "(I)I"⟩, 2), (⟨"KingdomSurvey$Tape", "byteAt", "(I)I"⟩, 2), (⟨"KingdomSurvey$Names", "numberOf", "(LKingdomSurvey$Tape;II)I"⟩, 4), (⟨"KingdomSurvey$Names", "isSpelled", "(ILKingdomSurvey$Tape;I)Z"⟩, 4), (⟨"KingdomSurvey$Villages", "enter", "(LKingdomSurvey$Tape;III)V"⟩, 3), (⟨"KingdomSurvey$Names", "write", "(LKingdomSurvey$Tape;I)I"⟩, 4), (⟨"KingdomSurvey$Villages", "has", "(I)Z"⟩, 3), (⟨"KingdomSurvey", "answerNamed", "(LKingdomSurvey$Names;I)I"⟩, 10), (⟨"KingdomSurvey$Tape", "clear", "()V"⟩, 2)]
theorem lw_r1 : ∀ q ∈ lw_privs_1, lw_okq q := List.forall_mem_cons.mpr ⟨lw_p0, List.forall_mem_cons.mpr ⟨lw_p1, List.forall_mem_cons.mpr ⟨lw_p2, List.forall_mem_cons.mpr ⟨lw_p3, List.forall_mem_cons.mpr ⟨lw_p4, List.forall_mem_cons.mpr ⟨lw_p5, List.forall_mem_cons.mpr ⟨lw_p6, List.forall_mem_cons.mpr ⟨lw_p7, List.forall_mem_cons.mpr ⟨lw_p8, List.forall_mem_cons.mpr ⟨lw_p9, List.forall_mem_cons.mpr ⟨lw_p10, List.forall_mem_cons.mpr ⟨lw_p11, List.forall_mem_cons.mpr ⟨lw_p12, List.forall_mem_cons.mpr ⟨lw_p13, List.forall_mem_cons.mpr ⟨lw_p14, List.forall_mem_cons.mpr ⟨lw_p15, fun _ h => absurd h List.not_mem_nil⟩⟩⟩⟩⟩⟩⟩⟩⟩⟩⟩⟩⟩⟩⟩⟩
theorem lw_p16 : lw_okq (⟨"KingdomSurvey$Lords", "has", "(I)Z"⟩, 2) := ⟨⟨by decide +kernel, by decide +kernel⟩, List.mem_of_getElem? (i := 90) (by decide +kernel), List.mem_of_getElem? (i := 376) (by decide +kernel), List.mem_of_getElem? (i := 377) (by decide +kernel)⟩
theorem lw_p17 : lw_okq (⟨"KingdomSurvey$Lords", "enter", "(LKingdomSurvey$Tape;II)V"⟩, 2) := ⟨⟨by decide +kernel, by decide +kernel⟩, List.mem_of_getElem? (i := 90) (by decide +kernel), List.mem_of_getElem? (i := 380) (by decide +kernel), List.mem_of_getElem? (i := 381) (by decide +kernel)⟩
theorem lw_p18 : lw_okq (⟨"KingdomSurvey$Lords", "putUnder", "(II)V"⟩, 2) := ⟨⟨by decide +kernel, by decide +kernel⟩, List.mem_of_getElem? (i := 90) (by decide +kernel), List.mem_of_getElem? (i := 385) (by decide +kernel), List.mem_of_getElem? (i := 386) (by decide +kernel)⟩
theorem lw_p19 : lw_okq (⟨"KingdomSurvey$Lords", "isBelow", "(II)Z"⟩, 2) := ⟨⟨by decide +kernel, by decide +kernel⟩, List.mem_of_getElem? (i := 90) (by decide +kernel), List.mem_of_getElem? (i := 394) (by decide +kernel), List.mem_of_getElem? (i := 395) (by decide +kernel)⟩
theorem lw_p20 : lw_okq (⟨"KingdomSurvey$Lords", "overlordOf", "(I)I"⟩, 2) := ⟨⟨by decide +kernel, by decide +kernel⟩, List.mem_of_getElem? (i := 90) (by decide +kernel), List.mem_of_getElem? (i := 398) (by decide +kernel), List.mem_of_getElem? (i := 399) (by decide +kernel)⟩
theorem lw_p21 : lw_okq (⟨"KingdomSurvey$Reader", "readText", "(II)Z"⟩, 11) := ⟨⟨by decide +kernel, by decide +kernel⟩, List.mem_of_getElem? (i := 132) (by decide +kernel), List.mem_of_getElem? (i := 407) (by decide +kernel), List.mem_of_getElem? (i := 408) (by decide +kernel)⟩
theorem lw_p22 : lw_okq (⟨"KingdomSurvey$Reader", "step", "()V"⟩, 11) := ⟨⟨by decide +kernel, by decide +kernel⟩, List.mem_of_getElem? (i := 132) (by decide +kernel), List.mem_of_getElem? (i := 411) (by decide +kernel), List.mem_of_getElem? (i := 412) (by decide +kernel)⟩
theorem lw_p23 : lw_okq (⟨"KingdomSurvey$Reader", "readEntry", "(I)Z"⟩, 11) := ⟨⟨by decide +kernel, by decide +kernel⟩, List.mem_of_getElem? (i := 132) (by decide +kernel), List.mem_of_getElem? (i := 417) (by decide +kernel), List.mem_of_getElem? (i := 418) (by decide +kernel)⟩
theorem lw_p24 : lw_okq (⟨"KingdomSurvey$Reader", "says", "(Ljava/lang/String;)Z"⟩, 11) := ⟨⟨by decide +kernel, by decide +kernel⟩, List.mem_of_getElem? (i := 132) (by decide +kernel), List.mem_of_getElem? (i := 422) (by decide +kernel), List.mem_of_getElem? (i := 423) (by decide +kernel)⟩
theorem lw_p25 : lw_okq (⟨"KingdomSurvey$Reader", "blame", "(I)Z"⟩, 11) := ⟨⟨by decide +kernel, by decide +kernel⟩, List.mem_of_getElem? (i := 132) (by decide +kernel), List.mem_of_getElem? (i := 475) (by decide +kernel), List.mem_of_getElem? (i := 476) (by decide +kernel)⟩
theorem lw_p26 : lw_okq (⟨"KingdomSurvey$Villages", "hundredOf", "(I)I"⟩, 3) := ⟨⟨by decide +kernel, by decide +kernel⟩, List.mem_of_getElem? (i := 46) (by decide +kernel), List.mem_of_getElem? (i := 480) (by decide +kernel), List.mem_of_getElem? (i := 481) (by decide +kernel)⟩
theorem lw_p27 : lw_okq (⟨"KingdomSurvey$Reader", "draftEntry", "(II)V"⟩, 11) := ⟨⟨by decide +kernel, by decide +kernel⟩, List.mem_of_getElem? (i := 132) (by decide +kernel), List.mem_of_getElem? (i := 485) (by decide +kernel), List.mem_of_getElem? (i := 486) (by decide +kernel)⟩
theorem lw_p28 : lw_okq (⟨"KingdomSurvey$Reader", "readItems", "()Z"⟩, 11) := ⟨⟨by decide +kernel, by decide +kernel⟩, List.mem_of_getElem? (i := 132) (by decide +kernel), List.mem_of_getElem? (i := 489) (by decide +kernel), List.mem_of_getElem? (i := 490) (by decide +kernel)⟩
theorem lw_p29 : lw_okq (⟨"KingdomSurvey$Reader", "numberInHand", "()I"⟩, 11) := ⟨⟨by decide +kernel, by decide +kernel⟩, List.mem_of_getElem? (i := 132) (by decide +kernel), List.mem_of_getElem? (i := 493) (by decide +kernel), List.mem_of_getElem? (i := 494) (by decide +kernel)⟩
theorem lw_p30 : lw_okq (⟨"KingdomSurvey$Reader", "thingInHand", "()I"⟩, 11) := ⟨⟨by decide +kernel, by decide +kernel⟩, List.mem_of_getElem? (i := 132) (by decide +kernel), List.mem_of_getElem? (i := 497) (by decide +kernel), List.mem_of_getElem? (i := 498) (by decide +kernel)⟩
theorem lw_p31 : lw_okq (⟨"KingdomSurvey", "settle", "(ZII)I"⟩, 10) := ⟨⟨by decide +kernel, by decide +kernel⟩, List.mem_of_getElem? (i := 23) (by decide +kernel), List.mem_of_getElem? (i := 506) (by decide +kernel), List.mem_of_getElem? (i := 507) (by decide +kernel)⟩
def lw_privs_2 : List (MethodName × Nat) := [(⟨"KingdomSurvey$Lords", "has", "(I)Z"⟩, 2), (⟨"KingdomSurvey$Lords", "enter", "(LKingdomSurvey$Tape;II)V"⟩, 2), (⟨"KingdomSurvey$Lords", "putUnder", "(II)V"⟩, 2), (⟨"KingdomSurvey$Lords", "isBelow", "(II)Z"⟩, 2), (⟨"KingdomSurvey$Lords", "overlordOf", "(I)I"⟩, 2), (⟨"KingdomSurvey$Reader", "readText", "(II)Z"⟩, 11), (⟨"KingdomSurvey$Reader", "step", "()V"⟩, 11), (⟨"KingdomSurvey$Reader", "readEntry", "(I)Z"⟩, 11), (⟨"KingdomSurvey$Reader", "says", "(Ljava/lang/String;)Z"⟩, 11), (⟨"KingdomSurvey$Reader", "blame", "(I)Z"⟩, 11), (⟨"KingdomSurvey$Villages", "hundredOf", "(I)I"⟩, 3), (⟨"KingdomSurvey$Reader", "draftEntry", "(II)V"⟩, 11), (⟨"KingdomSurvey$Reader", "readItems", "()Z"⟩, 11), (⟨"KingdomSurvey$Reader", "numberInHand", "()I"⟩, 11), (⟨"KingdomSurvey$Reader", "thingInHand", "()I"⟩, 11), (⟨"KingdomSurvey", "settle", "(ZII)I"⟩, 10)]
theorem lw_r2 : ∀ q ∈ lw_privs_2, lw_okq q := List.forall_mem_cons.mpr ⟨lw_p16, List.forall_mem_cons.mpr ⟨lw_p17, List.forall_mem_cons.mpr ⟨lw_p18, List.forall_mem_cons.mpr ⟨lw_p19, List.forall_mem_cons.mpr ⟨lw_p20, List.forall_mem_cons.mpr ⟨lw_p21, List.forall_mem_cons.mpr ⟨lw_p22, List.forall_mem_cons.mpr ⟨lw_p23, List.forall_mem_cons.mpr ⟨lw_p24, List.forall_mem_cons.mpr ⟨lw_p25, List.forall_mem_cons.mpr ⟨lw_p26, List.forall_mem_cons.mpr ⟨lw_p27, List.forall_mem_cons.mpr ⟨lw_p28, List.forall_mem_cons.mpr ⟨lw_p29, List.forall_mem_cons.mpr ⟨lw_p30, List.forall_mem_cons.mpr ⟨lw_p31, fun _ h => absurd h List.not_mem_nil⟩⟩⟩⟩⟩⟩⟩⟩⟩⟩⟩⟩⟩⟩⟩⟩
theorem lw_p32 : lw_okq (⟨"KingdomSurvey$Rolls", "take", "(LKingdomSurvey$Reader;II)I"⟩, 4) := ⟨⟨by decide +kernel, by decide +kernel⟩, List.mem_of_getElem? (i := 107) (by decide +kernel), List.mem_of_getElem? (i := 510) (by decide +kernel), List.mem_of_getElem? (i := 511) (by decide +kernel)⟩
theorem lw_p33 : lw_okq (⟨"KingdomSurvey$Rolls", "ofEntry", "(II)I"⟩, 4) := ⟨⟨by decide +kernel, by decide +kernel⟩, List.mem_of_getElem? (i := 107) (by decide +kernel), List.mem_of_getElem? (i := 530) (by decide +kernel), List.mem_of_getElem? (i := 531) (by decide +kernel)⟩
theorem lw_p34 : lw_okq (⟨"KingdomSurvey$Rolls", "ofReturn", "(II)I"⟩, 4) := ⟨⟨by decide +kernel, by decide +kernel⟩, List.mem_of_getElem? (i := 107) (by decide +kernel), List.mem_of_getElem? (i := 538) (by decide +kernel), List.mem_of_getElem? (i := 539) (by decide +kernel)⟩
theorem lw_p35 : lw_okq (⟨"KingdomSurvey", "claimedHides", "(I)I"⟩, 10) := ⟨⟨by decide +kernel, by decide +kernel⟩, List.mem_of_getElem? (i := 23) (by decide +kernel), List.mem_of_getElem? (i := 552) (by decide +kernel), List.mem_of_getElem? (i := 553) (by decide +kernel)⟩
theorem lw_p36 : lw_okq (⟨"KingdomSurvey$Rolls", "isClaimIn", "(II)Z"⟩, 4) := ⟨⟨by decide +kernel, by decide +kernel⟩, List.mem_of_getElem? (i := 107) (by decide +kernel), List.mem_of_getElem? (i := 556) (by decide +kernel), List.mem_of_getElem? (i := 557) (by decide +kernel)⟩
theorem lw_p37 : lw_okq (⟨"KingdomSurvey$Rolls", "isClaim", "(I)Z"⟩, 4) := ⟨⟨by decide +kernel, by decide +kernel⟩, List.mem_of_getElem? (i := 107) (by decide +kernel), List.mem_of_getElem? (i := 561) (by decide +kernel), List.mem_of_getElem? (i := 562) (by decide +kernel)⟩
theorem lw_p38 : lw_okq (⟨"KingdomSurvey$Rolls", "juryOf", "(I)I"⟩, 4) := ⟨⟨by decide +kernel, by decide +kernel⟩, List.mem_of_getElem? (i := 107) (by decide +kernel), List.mem_of_getElem? (i := 565) (by decide +kernel), List.mem_of_getElem? (i := 566) (by decide +kernel)⟩
theorem lw_p39 : lw_okq (⟨"KingdomSurvey$Villages", "hidesOf", "(I)I"⟩, 3) := ⟨⟨by decide +kernel, by decide +kernel⟩, List.mem_of_getElem? (i := 46) (by decide +kernel), List.mem_of_getElem? (i := 574) (by decide +kernel), List.mem_of_getElem? (i := 575) (by decide +kernel)⟩
theorem lw_p40 : lw_okq (⟨"KingdomSurvey", "claimsIn", "(I)I"⟩, 10) := ⟨⟨by decide +kernel, by decide +kernel⟩, List.mem_of_getElem? (i := 23) (by decide +kernel), List.mem_of_getElem? (i := 582) (by decide +kernel), List.mem_of_getElem? (i := 583) (by decide +kernel)⟩
theorem lw_p41 : lw_okq (⟨"KingdomSurvey$FewestFall", "choose", "(LKingdomSurvey$Rolls;II)I"⟩, 5) := ⟨⟨by decide +kernel, by decide +kernel⟩, List.mem_of_getElem? (i := 177) (by decide +kernel), List.mem_of_getElem? (i := 586) (by decide +kernel), List.mem_of_getElem? (i := 587) (by decide +kernel)⟩
theorem lw_p42 : lw_okq (⟨"KingdomSurvey$FewestFall", "gather", "(LKingdomSurvey$Rolls;I)I"⟩, 5) := ⟨⟨by decide +kernel, by decide +kernel⟩, List.mem_of_getElem? (i := 177) (by decide +kernel), List.mem_of_getElem? (i := 590) (by decide +kernel), List.mem_of_getElem? (i := 591) (by decide +kernel)⟩
theorem lw_p43 : lw_okq (⟨"KingdomSurvey$FewestFall", "fewestFor", "(I)I"⟩, 5) := ⟨⟨by decide +kernel, by decide +kernel⟩, List.mem_of_getElem? (i := 177) (by decide +kernel), List.mem_of_getElem? (i := 596) (by decide +kernel), List.mem_of_getElem? (i := 597) (by decide +kernel)⟩
theorem lw_p44 : lw_okq (⟨"KingdomSurvey$FewestFall", "greatestWithout", "(I)I"⟩, 5) := ⟨⟨by decide +kernel, by decide +kernel⟩, List.mem_of_getElem? (i := 177) (by decide +kernel), List.mem_of_getElem? (i := 600) (by decide +kernel), List.mem_of_getElem? (i := 601) (by decide +kernel)⟩
theorem lw_p45 : lw_okq (⟨"KingdomSurvey$FewestFall", "bitOf", "(I)I"⟩, 5) := ⟨⟨by decide +kernel, by decide +kernel⟩, List.mem_of_getElem? (i := 177) (by decide +kernel), List.mem_of_getElem? (i := 604) (by decide +kernel), List.mem_of_getElem? (i := 605) (by decide +kernel)⟩
theorem lw_p46 : lw_okq (⟨"KingdomSurvey$FewestFall", "bestSet", "(II)I"⟩, 5) := ⟨⟨by decide +kernel, by decide +kernel⟩, List.mem_of_getElem? (i := 177) (by decide +kernel), List.mem_of_getElem? (i := 608) (by decide +kernel), List.mem_of_getElem? (i := 609) (by decide +kernel)⟩
theorem lw_p47 : lw_okq (⟨"KingdomSurvey$FewestFall", "hidesOfSet", "(I)I"⟩, 5) := ⟨⟨by decide +kernel, by decide +kernel⟩, List.mem_of_getElem? (i := 177) (by decide +kernel), List.mem_of_getElem? (i := 619) (by decide +kernel), List.mem_of_getElem? (i := 620) (by decide +kernel)⟩
def lw_privs_3 : List (MethodName × Nat) := [(⟨"KingdomSurvey$Rolls", "take", "(LKingdomSurvey$Reader;II)I"⟩, 4), (⟨"KingdomSurvey$Rolls", "ofEntry", "(II)I"⟩, 4), (⟨"KingdomSurvey$Rolls", "ofReturn", "(II)I"⟩, 4), (⟨"KingdomSurvey", "claimedHides", "(I)I"⟩, 10), (⟨"KingdomSurvey$Rolls", "isClaimIn", "(II)Z"⟩, 4), (⟨"KingdomSurvey$Rolls", "isClaim", "(I)Z"⟩, 4), (⟨"KingdomSurvey$Rolls", "juryOf", "(I)I"⟩, 4), (⟨"KingdomSurvey$Villages", "hidesOf", "(I)I"⟩, 3), (⟨"KingdomSurvey", "claimsIn", "(I)I"⟩, 10), (⟨"KingdomSurvey$FewestFall", "choose", "(LKingdomSurvey$Rolls;II)I"⟩, 5), (⟨"KingdomSurvey$FewestFall", "gather", "(LKingdomSurvey$Rolls;I)I"⟩, 5), (⟨"KingdomSurvey$FewestFall", "fewestFor", "(I)I"⟩, 5), (⟨"KingdomSurvey$FewestFall", "greatestWithout", "(I)I"⟩, 5), (⟨"KingdomSurvey$FewestFall", "bitOf", "(I)I"⟩, 5), (⟨"KingdomSurvey$FewestFall", "bestSet", "(II)I"⟩, 5), (⟨"KingdomSurvey$FewestFall", "hidesOfSet", "(I)I"⟩, 5)]
theorem lw_r3 : ∀ q ∈ lw_privs_3, lw_okq q := List.forall_mem_cons.mpr ⟨lw_p32, List.forall_mem_cons.mpr ⟨lw_p33, List.forall_mem_cons.mpr ⟨lw_p34, List.forall_mem_cons.mpr ⟨lw_p35, List.forall_mem_cons.mpr ⟨lw_p36, List.forall_mem_cons.mpr ⟨lw_p37, List.forall_mem_cons.mpr ⟨lw_p38, List.forall_mem_cons.mpr ⟨lw_p39, List.forall_mem_cons.mpr ⟨lw_p40, List.forall_mem_cons.mpr ⟨lw_p41, List.forall_mem_cons.mpr ⟨lw_p42, List.forall_mem_cons.mpr ⟨lw_p43, List.forall_mem_cons.mpr ⟨lw_p44, List.forall_mem_cons.mpr ⟨lw_p45, List.forall_mem_cons.mpr ⟨lw_p46, List.forall_mem_cons.mpr ⟨lw_p47, fun _ h => absurd h List.not_mem_nil⟩⟩⟩⟩⟩⟩⟩⟩⟩⟩⟩⟩⟩⟩⟩⟩
theorem lw_p48 : lw_okq (⟨"KingdomSurvey$FewestFall", "keep", "(I)V"⟩, 5) := ⟨⟨by decide +kernel, by decide +kernel⟩, List.mem_of_getElem? (i := 177) (by decide +kernel), List.mem_of_getElem? (i := 623) (by decide +kernel), List.mem_of_getElem? (i := 624) (by decide +kernel)⟩
theorem lw_p49 : lw_okq (⟨"KingdomSurvey$FewestFall", "fallen", "(I)I"⟩, 5) := ⟨⟨by decide +kernel, by decide +kernel⟩, List.mem_of_getElem? (i := 177) (by decide +kernel), List.mem_of_getElem? (i := 631) (by decide +kernel), List.mem_of_getElem? (i := 632) (by decide +kernel)⟩
theorem lw_p50 : lw_okq (⟨"KingdomSurvey$Laying", "layBeside", "(LKingdomSurvey$Rolls;II)I"⟩, 10) := ⟨⟨by decide +kernel, by decide +kernel⟩, List.mem_of_getElem? (i := 199) (by decide +kernel), List.mem_of_getElem? (i := 647) (by decide +kernel), List.mem_of_getElem? (i := 648) (by decide +kernel)⟩
theorem lw_p51 : lw_okq (⟨"KingdomSurvey$Laying", "gather", "(LKingdomSurvey$Rolls;II)V"⟩, 10) := ⟨⟨by decide +kernel, by decide +kernel⟩, List.mem_of_getElem? (i := 199) (by decide +kernel), List.mem_of_getElem? (i := 651) (by decide +kernel), List.mem_of_getElem? (i := 652) (by decide +kernel)⟩
theorem lw_p52 : lw_okq (⟨"KingdomSurvey$Rolls", "tellerOf", "(I)I"⟩, 4) := ⟨⟨by decide +kernel, by decide +kernel⟩, List.mem_of_getElem? (i := 107) (by decide +kernel), List.mem_of_getElem? (i := 657) (by decide +kernel), List.mem_of_getElem? (i := 658) (by decide +kernel)⟩
theorem lw_p53 : lw_okq (⟨"KingdomSurvey$Laying", "measure", "(LKingdomSurvey$Rolls;)V"⟩, 10) := ⟨⟨by decide +kernel, by decide +kernel⟩, List.mem_of_getElem? (i := 199) (by decide +kernel), List.mem_of_getElem? (i := 661) (by decide +kernel), List.mem_of_getElem? (i := 662) (by decide +kernel)⟩
theorem lw_p54 : lw_okq (⟨"KingdomSurvey$Laying", "weigh", "()V"⟩, 10) := ⟨⟨by decide +kernel, by decide +kernel⟩, List.mem_of_getElem? (i := 199) (by decide +kernel), List.mem_of_getElem? (i := 668) (by decide +kernel), List.mem_of_getElem? (i := 669) (by decide +kernel)⟩
theorem lw_p55 : lw_okq (⟨"KingdomSurvey$Laying", "leastFrom", "(II)I"⟩, 10) := ⟨⟨by decide +kernel, by decide +kernel⟩, List.mem_of_getElem? (i := 199) (by decide +kernel), List.mem_of_getElem? (i := 672) (by decide +kernel), List.mem_of_getElem? (i := 673) (by decide +kernel)⟩
theorem lw_p56 : lw_okq (⟨"KingdomSurvey$Laying", "costOf", "(III)I"⟩, 10) := ⟨⟨by decide +kernel, by decide +kernel⟩, List.mem_of_getElem? (i := 199) (by decide +kernel), List.mem_of_getElem? (i := 677) (by decide +kernel), List.mem_of_getElem? (i := 678) (by decide +kernel)⟩
theorem lw_p57 : lw_okq (⟨"KingdomSurvey$Laying", "keepBest", "()V"⟩, 10) := ⟨⟨by decide +kernel, by decide +kernel⟩, List.mem_of_getElem? (i := 199) (by decide +kernel), List.mem_of_getElem? (i := 682) (by decide +kernel), List.mem_of_getElem? (i := 683) (by decide +kernel)⟩
theorem lw_p58 : lw_okq (⟨"KingdomSurvey$Laying", "firstBest", "(II)I"⟩, 10) := ⟨⟨by decide +kernel, by decide +kernel⟩, List.mem_of_getElem? (i := 199) (by decide +kernel), List.mem_of_getElem? (i := 686) (by decide +kernel), List.mem_of_getElem? (i := 687) (by decide +kernel)⟩
theorem lw_p59 : lw_okq (⟨"KingdomSurvey$Laying", "ofPair", "(IZ)I"⟩, 10) := ⟨⟨by decide +kernel, by decide +kernel⟩, List.mem_of_getElem? (i := 199) (by decide +kernel), List.mem_of_getElem? (i := 698) (by decide +kernel), List.mem_of_getElem? (i := 699) (by decide +kernel)⟩
theorem lw_p60 : lw_okq (⟨"KingdomSurvey", "heldBy", "(IIZ)I"⟩, 10) := ⟨⟨by decide +kernel, by decide +kernel⟩, List.mem_of_getElem? (i := 23) (by decide +kernel), List.mem_of_getElem? (i := 709) (by decide +kernel), List.mem_of_getElem? (i := 710) (by decide +kernel)⟩
theorem lw_p61 : lw_okq (⟨"KingdomSurvey$Lords", "highestOver", "(I)I"⟩, 2) := ⟨⟨by decide +kernel, by decide +kernel⟩, List.mem_of_getElem? (i := 90) (by decide +kernel), List.mem_of_getElem? (i := 722) (by decide +kernel), List.mem_of_getElem? (i := 723) (by decide +kernel)⟩
theorem lw_p62 : lw_okq (⟨"KingdomSurvey$Rates", "become", "(IIII)V"⟩, 4) := ⟨⟨by decide +kernel, by decide +kernel⟩, List.mem_of_getElem? (i := 238) (by decide +kernel), List.mem_of_getElem? (i := 739) (by decide +kernel), List.mem_of_getElem? (i := 740) (by decide +kernel)⟩
theorem lw_p63 : lw_okq (⟨"KingdomSurvey", "taxOf", "(II)I"⟩, 10) := ⟨⟨by decide +kernel, by decide +kernel⟩, List.mem_of_getElem? (i := 23) (by decide +kernel), List.mem_of_getElem? (i := 747) (by decide +kernel), List.mem_of_getElem? (i := 748) (by decide +kernel)⟩
def lw_privs_4 : List (MethodName × Nat) := [(⟨"KingdomSurvey$FewestFall", "keep", "(I)V"⟩, 5), (⟨"KingdomSurvey$FewestFall", "fallen", "(I)I"⟩, 5), (⟨"KingdomSurvey$Laying", "layBeside", "(LKingdomSurvey$Rolls;II)I"⟩, 10), (⟨"KingdomSurvey$Laying", "gather", "(LKingdomSurvey$Rolls;II)V"⟩, 10), (⟨"KingdomSurvey$Rolls", "tellerOf", "(I)I"⟩, 4), (⟨"KingdomSurvey$Laying", "measure", "(LKingdomSurvey$Rolls;)V"⟩, 10), (⟨"KingdomSurvey$Laying", "weigh", "()V"⟩, 10), (⟨"KingdomSurvey$Laying", "leastFrom", "(II)I"⟩, 10), (⟨"KingdomSurvey$Laying", "costOf", "(III)I"⟩, 10), (⟨"KingdomSurvey$Laying", "keepBest", "()V"⟩, 10), (⟨"KingdomSurvey$Laying", "firstBest", "(II)I"⟩, 10), (⟨"KingdomSurvey$Laying", "ofPair", "(IZ)I"⟩, 10), (⟨"KingdomSurvey", "heldBy", "(IIZ)I"⟩, 10), (⟨"KingdomSurvey$Lords", "highestOver", "(I)I"⟩, 2), (⟨"KingdomSurvey$Rates", "become", "(IIII)V"⟩, 4), (⟨"KingdomSurvey", "taxOf", "(II)I"⟩, 10)]
theorem lw_r4 : ∀ q ∈ lw_privs_4, lw_okq q := List.forall_mem_cons.mpr ⟨lw_p48, List.forall_mem_cons.mpr ⟨lw_p49, List.forall_mem_cons.mpr ⟨lw_p50, List.forall_mem_cons.mpr ⟨lw_p51, List.forall_mem_cons.mpr ⟨lw_p52, List.forall_mem_cons.mpr ⟨lw_p53, List.forall_mem_cons.mpr ⟨lw_p54, List.forall_mem_cons.mpr ⟨lw_p55, List.forall_mem_cons.mpr ⟨lw_p56, List.forall_mem_cons.mpr ⟨lw_p57, List.forall_mem_cons.mpr ⟨lw_p58, List.forall_mem_cons.mpr ⟨lw_p59, List.forall_mem_cons.mpr ⟨lw_p60, List.forall_mem_cons.mpr ⟨lw_p61, List.forall_mem_cons.mpr ⟨lw_p62, List.forall_mem_cons.mpr ⟨lw_p63, fun _ h => absurd h List.not_mem_nil⟩⟩⟩⟩⟩⟩⟩⟩⟩⟩⟩⟩⟩⟩⟩⟩
theorem lw_p64 : lw_okq (⟨"KingdomSurvey$Rates", "taxOn", "(LKingdomSurvey$Rolls;II)I"⟩, 4) := ⟨⟨by decide +kernel, by decide +kernel⟩, List.mem_of_getElem? (i := 238) (by decide +kernel), List.mem_of_getElem? (i := 751) (by decide +kernel), List.mem_of_getElem? (i := 752) (by decide +kernel)⟩
theorem lw_p65 : lw_okq (⟨"KingdomSurvey$Rates", "rateOf", "(LKingdomSurvey$Rolls;II)I"⟩, 4) := ⟨⟨by decide +kernel, by decide +kernel⟩, List.mem_of_getElem? (i := 238) (by decide +kernel), List.mem_of_getElem? (i := 755) (by decide +kernel), List.mem_of_getElem? (i := 756) (by decide +kernel)⟩
theorem lw_p66 : lw_okq (⟨"KingdomSurvey$Rates", "limitOf", "(LKingdomSurvey$Rolls;I)I"⟩, 4) := ⟨⟨by decide +kernel, by decide +kernel⟩, List.mem_of_getElem? (i := 238) (by decide +kernel), List.mem_of_getElem? (i := 760) (by decide +kernel), List.mem_of_getElem? (i := 761) (by decide +kernel)⟩
theorem lw_p67 : lw_okq (⟨"KingdomSurvey", "leastRaise", "(I)I"⟩, 10) := ⟨⟨by decide +kernel, by decide +kernel⟩, List.mem_of_getElem? (i := 23) (by decide +kernel), List.mem_of_getElem? (i := 769) (by decide +kernel), List.mem_of_getElem? (i := 770) (by decide +kernel)⟩
theorem lw_p68 : lw_okq (⟨"KingdomSurvey", "allClaims", "()I"⟩, 10) := ⟨⟨by decide +kernel, by decide +kernel⟩, List.mem_of_getElem? (i := 23) (by decide +kernel), List.mem_of_getElem? (i := 791) (by decide +kernel), List.mem_of_getElem? (i := 792) (by decide +kernel)⟩
theorem lw_p69 : lw_okq (⟨"java/lang/Throwable", "fillInStackTrace", "(I)Ljava/lang/Throwable;"⟩, 6) := ⟨⟨by decide +kernel, by decide +kernel⟩, List.mem_of_getElem? (i := 841) (by decide +kernel), List.mem_of_getElem? (i := 839) (by decide +kernel), List.mem_of_getElem? (i := 840) (by decide +kernel)⟩
theorem lw_p70 : lw_okq (⟨"KingdomSurveyModel", "refused", "(I)I"⟩, 50) := ⟨⟨by decide +kernel, by decide +kernel⟩, List.mem_of_getElem? (i := 799) (by decide +kernel), List.mem_of_getElem? (i := 1035) (by decide +kernel), List.mem_of_getElem? (i := 1036) (by decide +kernel)⟩
theorem lw_p71 : lw_okq (⟨"KingdomSurveyModel", "done", "(I)I"⟩, 50) := ⟨⟨by decide +kernel, by decide +kernel⟩, List.mem_of_getElem? (i := 799) (by decide +kernel), List.mem_of_getElem? (i := 1039) (by decide +kernel), List.mem_of_getElem? (i := 1040) (by decide +kernel)⟩
theorem lw_p72 : lw_okq (⟨"KingdomSurveyModel", "isHundred", "(I)Z"⟩, 50) := ⟨⟨by decide +kernel, by decide +kernel⟩, List.mem_of_getElem? (i := 799) (by decide +kernel), List.mem_of_getElem? (i := 1047) (by decide +kernel), List.mem_of_getElem? (i := 1048) (by decide +kernel)⟩
theorem lw_p73 : lw_okq (⟨"KingdomSurveyModel", "isTaped", "(I)Z"⟩, 50) := ⟨⟨by decide +kernel, by decide +kernel⟩, List.mem_of_getElem? (i := 799) (by decide +kernel), List.mem_of_getElem? (i := 1054) (by decide +kernel), List.mem_of_getElem? (i := 1055) (by decide +kernel)⟩
theorem lw_p74 : lw_okq (⟨"KingdomSurveyModel", "oneWord", "(I)J"⟩, 50) := ⟨⟨by decide +kernel, by decide +kernel⟩, List.mem_of_getElem? (i := 799) (by decide +kernel), List.mem_of_getElem? (i := 1058) (by decide +kernel), List.mem_of_getElem? (i := 1059) (by decide +kernel)⟩
theorem lw_p75 : lw_okq (⟨"KingdomSurveyModel", "villageOf", "(J)I"⟩, 50) := ⟨⟨by decide +kernel, by decide +kernel⟩, List.mem_of_getElem? (i := 799) (by decide +kernel), List.mem_of_getElem? (i := 1066) (by decide +kernel), List.mem_of_getElem? (i := 1067) (by decide +kernel)⟩
theorem lw_p76 : lw_okq (⟨"KingdomSurveyModel", "isLord", "(I)Z"⟩, 50) := ⟨⟨by decide +kernel, by decide +kernel⟩, List.mem_of_getElem? (i := 799) (by decide +kernel), List.mem_of_getElem? (i := 1074) (by decide +kernel), List.mem_of_getElem? (i := 1075) (by decide +kernel)⟩
theorem lw_p77 : lw_okq (⟨"KingdomSurveyModel", "lordOf", "(J)I"⟩, 50) := ⟨⟨by decide +kernel, by decide +kernel⟩, List.mem_of_getElem? (i := 799) (by decide +kernel), List.mem_of_getElem? (i := 1078) (by decide +kernel), List.mem_of_getElem? (i := 1079) (by decide +kernel)⟩
theorem lw_p78 : lw_okq (⟨"KingdomSurveyModel", "denied", "(I)Z"⟩, 50) := ⟨⟨by decide +kernel, by decide +kernel⟩, List.mem_of_getElem? (i := 799) (by decide +kernel), List.mem_of_getElem? (i := 1086) (by decide +kernel), List.mem_of_getElem? (i := 1087) (by decide +kernel)⟩
theorem lw_p79 : lw_okq (⟨"KingdomSurveyModel", "isUnder", "(II)Z"⟩, 50) := ⟨⟨by decide +kernel, by decide +kernel⟩, List.mem_of_getElem? (i := 799) (by decide +kernel), List.mem_of_getElem? (i := 1090) (by decide +kernel), List.mem_of_getElem? (i := 1091) (by decide +kernel)⟩
def lw_privs_5 : List (MethodName × Nat) := [(⟨"KingdomSurvey$Rates", "taxOn", "(LKingdomSurvey$Rolls;II)I"⟩, 4), (⟨"KingdomSurvey$Rates", "rateOf", "(LKingdomSurvey$Rolls;II)I"⟩, 4), (⟨"KingdomSurvey$Rates", "limitOf", "(LKingdomSurvey$Rolls;I)I"⟩, 4), (⟨"KingdomSurvey", "leastRaise", "(I)I"⟩, 10), (⟨"KingdomSurvey", "allClaims", "()I"⟩, 10), (⟨"java/lang/Throwable", "fillInStackTrace", "(I)Ljava/lang/Throwable;"⟩, 6), (⟨"KingdomSurveyModel", "refused", "(I)I"⟩, 50), (⟨"KingdomSurveyModel", "done", "(I)I"⟩, 50), (⟨"KingdomSurveyModel", "isHundred", "(I)Z"⟩, 50), (⟨"KingdomSurveyModel", "isTaped", "(I)Z"⟩, 50), (⟨"KingdomSurveyModel", "oneWord", "(I)J"⟩, 50), (⟨"KingdomSurveyModel", "villageOf", "(J)I"⟩, 50), (⟨"KingdomSurveyModel", "isLord", "(I)Z"⟩, 50), (⟨"KingdomSurveyModel", "lordOf", "(J)I"⟩, 50), (⟨"KingdomSurveyModel", "denied", "(I)Z"⟩, 50), (⟨"KingdomSurveyModel", "isUnder", "(II)Z"⟩, 50)]
theorem lw_r5 : ∀ q ∈ lw_privs_5, lw_okq q := List.forall_mem_cons.mpr ⟨lw_p64, List.forall_mem_cons.mpr ⟨lw_p65, List.forall_mem_cons.mpr ⟨lw_p66, List.forall_mem_cons.mpr ⟨lw_p67, List.forall_mem_cons.mpr ⟨lw_p68, List.forall_mem_cons.mpr ⟨lw_p69, List.forall_mem_cons.mpr ⟨lw_p70, List.forall_mem_cons.mpr ⟨lw_p71, List.forall_mem_cons.mpr ⟨lw_p72, List.forall_mem_cons.mpr ⟨lw_p73, List.forall_mem_cons.mpr ⟨lw_p74, List.forall_mem_cons.mpr ⟨lw_p75, List.forall_mem_cons.mpr ⟨lw_p76, List.forall_mem_cons.mpr ⟨lw_p77, List.forall_mem_cons.mpr ⟨lw_p78, List.forall_mem_cons.mpr ⟨lw_p79, fun _ h => absurd h List.not_mem_nil⟩⟩⟩⟩⟩⟩⟩⟩⟩⟩⟩⟩⟩⟩⟩⟩
theorem lw_p80 : lw_okq (⟨"KingdomSurveyModel", "granted", "()Z"⟩, 50) := ⟨⟨by decide +kernel, by decide +kernel⟩, List.mem_of_getElem? (i := 799) (by decide +kernel), List.mem_of_getElem? (i := 1094) (by decide +kernel), List.mem_of_getElem? (i := 1095) (by decide +kernel)⟩
theorem lw_p81 : lw_okq (⟨"KingdomSurveyModel", "takes", "(III)I"⟩, 50) := ⟨⟨by decide +kernel, by decide +kernel⟩, List.mem_of_getElem? (i := 799) (by decide +kernel), List.mem_of_getElem? (i := 1106) (by decide +kernel), List.mem_of_getElem? (i := 1107) (by decide +kernel)⟩
theorem lw_p82 : lw_okq (⟨"KingdomSurveyModel", "starts", "(I)V"⟩, 50) := ⟨⟨by decide +kernel, by decide +kernel⟩, List.mem_of_getElem? (i := 799) (by decide +kernel), List.mem_of_getElem? (i := 1110) (by decide +kernel), List.mem_of_getElem? (i := 1111) (by decide +kernel)⟩
theorem lw_p83 : lw_okq (⟨"KingdomSurveyModel", "next", "()V"⟩, 50) := ⟨⟨by decide +kernel, by decide +kernel⟩, List.mem_of_getElem? (i := 799) (by decide +kernel), List.mem_of_getElem? (i := 1114) (by decide +kernel), List.mem_of_getElem? (i := 1115) (by decide +kernel)⟩
theorem lw_p84 : lw_okq (⟨"KingdomSurveyModel", "byteAt", "(I)I"⟩, 50) := ⟨⟨by decide +kernel, by decide +kernel⟩, List.mem_of_getElem? (i := 799) (by decide +kernel), List.mem_of_getElem? (i := 1118) (by decide +kernel), List.mem_of_getElem? (i := 1119) (by decide +kernel)⟩
theorem lw_p85 : lw_okq (⟨"KingdomSurveyModel", "reads", "(I)I"⟩, 50) := ⟨⟨by decide +kernel, by decide +kernel⟩, List.mem_of_getElem? (i := 799) (by decide +kernel), List.mem_of_getElem? (i := 1125) (by decide +kernel), List.mem_of_getElem? (i := 1126) (by decide +kernel)⟩
theorem lw_p86 : lw_okq (⟨"KingdomSurveyModel", "isWord", "(Ljava/lang/String;)Z"⟩, 50) := ⟨⟨by decide +kernel, by decide +kernel⟩, List.mem_of_getElem? (i := 799) (by decide +kernel), List.mem_of_getElem? (i := 1130) (by decide +kernel), List.mem_of_getElem? (i := 1131) (by decide +kernel)⟩
theorem lw_p87 : lw_okq (⟨"KingdomSurveyModel", "stop", "(II)LKingdomSurveyModel$Stop;"⟩, 50) := ⟨⟨by decide +kernel, by decide +kernel⟩, List.mem_of_getElem? (i := 799) (by decide +kernel), List.mem_of_getElem? (i := 1139) (by decide +kernel), List.mem_of_getElem? (i := 1140) (by decide +kernel)⟩
theorem lw_p88 : lw_okq (⟨"KingdomSurveyModel", "readItems", "(I)V"⟩, 50) := ⟨⟨by decide +kernel, by decide +kernel⟩, List.mem_of_getElem? (i := 799) (by decide +kernel), List.mem_of_getElem? (i := 1144) (by decide +kernel), List.mem_of_getElem? (i := 1145) (by decide +kernel)⟩
theorem lw_p89 : lw_okq (⟨"KingdomSurveyModel", "thingHere", "()I"⟩, 50) := ⟨⟨by decide +kernel, by decide +kernel⟩, List.mem_of_getElem? (i := 799) (by decide +kernel), List.mem_of_getElem? (i := 1148) (by decide +kernel), List.mem_of_getElem? (i := 1149) (by decide +kernel)⟩
theorem lw_p90 : lw_okq (⟨"KingdomSurveyModel", "is", "(I)Z"⟩, 50) := ⟨⟨by decide +kernel, by decide +kernel⟩, List.mem_of_getElem? (i := 799) (by decide +kernel), List.mem_of_getElem? (i := 1157) (by decide +kernel), List.mem_of_getElem? (i := 1158) (by decide +kernel)⟩
theorem lw_p91 : lw_okq (⟨"KingdomSurveyModel", "isVillage", "(I)Z"⟩, 50) := ⟨⟨by decide +kernel, by decide +kernel⟩, List.mem_of_getElem? (i := 799) (by decide +kernel), List.mem_of_getElem? (i := 1185) (by decide +kernel), List.mem_of_getElem? (i := 1186) (by decide +kernel)⟩
theorem lw_p92 : lw_okq (⟨"KingdomSurveyModel", "claimedIn", "(I)I"⟩, 50) := ⟨⟨by decide +kernel, by decide +kernel⟩, List.mem_of_getElem? (i := 799) (by decide +kernel), List.mem_of_getElem? (i := 1189) (by decide +kernel), List.mem_of_getElem? (i := 1190) (by decide +kernel)⟩
theorem lw_p93 : lw_okq (⟨"KingdomSurveyModel", "isClaim", "(I)Z"⟩, 50) := ⟨⟨by decide +kernel, by decide +kernel⟩, List.mem_of_getElem? (i := 799) (by decide +kernel), List.mem_of_getElem? (i := 1193) (by decide +kernel), List.mem_of_getElem? (i := 1194) (by decide +kernel)⟩
theorem lw_p94 : lw_okq (⟨"KingdomSurveyModel", "silentAt", "(I)I"⟩, 50) := ⟨⟨by decide +kernel, by decide +kernel⟩, List.mem_of_getElem? (i := 799) (by decide +kernel), List.mem_of_getElem? (i := 1216) (by decide +kernel), List.mem_of_getElem? (i := 1217) (by decide +kernel)⟩
theorem lw_p95 : lw_okq (⟨"KingdomSurveyModel", "pairs", "(IIII)V"⟩, 50) := ⟨⟨by decide +kernel, by decide +kernel⟩, List.mem_of_getElem? (i := 799) (by decide +kernel), List.mem_of_getElem? (i := 1231) (by decide +kernel), List.mem_of_getElem? (i := 1232) (by decide +kernel)⟩
def lw_privs_6 : List (MethodName × Nat) := [(⟨"KingdomSurveyModel", "granted", "()Z"⟩, 50), (⟨"KingdomSurveyModel", "takes", "(III)I"⟩, 50), (⟨"KingdomSurveyModel", "starts", "(I)V"⟩, 50), (⟨"KingdomSurveyModel", "next", "()V"⟩, 50), (⟨"KingdomSurveyModel", "byteAt", "(I)I"⟩, 50), (⟨"KingdomSurveyModel", "reads", "(I)I"⟩, 50), (⟨"KingdomSurveyModel", "isWord", "(Ljava/lang/String;)Z"⟩, 50), (⟨"KingdomSurveyModel", "stop", "(II)LKingdomSurveyModel$Stop;"⟩, 50), (⟨"KingdomSurveyModel", "readItems", "(I)V"⟩, 50), (⟨"KingdomSurveyModel", "thingHere", "()I"⟩, 50), (⟨"KingdomSurveyModel", "is", "(I)Z"⟩, 50), (⟨"KingdomSurveyModel", "isVillage", "(I)Z"⟩, 50), (⟨"KingdomSurveyModel", "claimedIn", "(I)I"⟩, 50), (⟨"KingdomSurveyModel", "isClaim", "(I)Z"⟩, 50), (⟨"KingdomSurveyModel", "silentAt", "(I)I"⟩, 50), (⟨"KingdomSurveyModel", "pairs", "(IIII)V"⟩, 50)]
theorem lw_r6 : ∀ q ∈ lw_privs_6, lw_okq q := List.forall_mem_cons.mpr ⟨lw_p80, List.forall_mem_cons.mpr ⟨lw_p81, List.forall_mem_cons.mpr ⟨lw_p82, List.forall_mem_cons.mpr ⟨lw_p83, List.forall_mem_cons.mpr ⟨lw_p84, List.forall_mem_cons.mpr ⟨lw_p85, List.forall_mem_cons.mpr ⟨lw_p86, List.forall_mem_cons.mpr ⟨lw_p87, List.forall_mem_cons.mpr ⟨lw_p88, List.forall_mem_cons.mpr ⟨lw_p89, List.forall_mem_cons.mpr ⟨lw_p90, List.forall_mem_cons.mpr ⟨lw_p91, List.forall_mem_cons.mpr ⟨lw_p92, List.forall_mem_cons.mpr ⟨lw_p93, List.forall_mem_cons.mpr ⟨lw_p94, List.forall_mem_cons.mpr ⟨lw_p95, fun _ h => absurd h List.not_mem_nil⟩⟩⟩⟩⟩⟩⟩⟩⟩⟩⟩⟩⟩⟩⟩⟩
theorem lw_p96 : lw_okq (⟨"KingdomSurveyModel", "apart", "(II)I"⟩, 50) := ⟨⟨by decide +kernel, by decide +kernel⟩, List.mem_of_getElem? (i := 799) (by decide +kernel), List.mem_of_getElem? (i := 1235) (by decide +kernel), List.mem_of_getElem? (i := 1236) (by decide +kernel)⟩
theorem lw_p97 : lw_okq (⟨"KingdomSurveyModel", "heldOf", "(IIZ)I"⟩, 50) := ⟨⟨by decide +kernel, by decide +kernel⟩, List.mem_of_getElem? (i := 799) (by decide +kernel), List.mem_of_getElem? (i := 1252) (by decide +kernel), List.mem_of_getElem? (i := 1253) (by decide +kernel)⟩
theorem lw_p98 : lw_okq (⟨"KingdomSurveyModel", "taxOf", "(II)I"⟩, 50) := ⟨⟨by decide +kernel, by decide +kernel⟩, List.mem_of_getElem? (i := 799) (by decide +kernel), List.mem_of_getElem? (i := 1280) (by decide +kernel), List.mem_of_getElem? (i := 1281) (by decide +kernel)⟩
theorem lw_p99 : lw_okq (⟨"KingdomSurveyModel", "ratesOf", "(II)I"⟩, 50) := ⟨⟨by decide +kernel, by decide +kernel⟩, List.mem_of_getElem? (i := 799) (by decide +kernel), List.mem_of_getElem? (i := 1284) (by decide +kernel), List.mem_of_getElem? (i := 1285) (by decide +kernel)⟩
theorem lw_p100 : lw_okq (⟨"KingdomSurveyModel", "shareOf", "(I)I"⟩, 50) := ⟨⟨by decide +kernel, by decide +kernel⟩, List.mem_of_getElem? (i := 799) (by decide +kernel), List.mem_of_getElem? (i := 1288) (by decide +kernel), List.mem_of_getElem? (i := 1289) (by decide +kernel)⟩
def lw_privs_7 : List (MethodName × Nat) := [(⟨"KingdomSurveyModel", "apart", "(II)I"⟩, 50), (⟨"KingdomSurveyModel", "heldOf", "(IIZ)I"⟩, 50), (⟨"KingdomSurveyModel", "taxOf", "(II)I"⟩, 50), (⟨"KingdomSurveyModel", "ratesOf", "(II)I"⟩, 50), (⟨"KingdomSurveyModel", "shareOf", "(I)I"⟩, 50)]
theorem lw_r7 : ∀ q ∈ lw_privs_7, lw_okq q := List.forall_mem_cons.mpr ⟨lw_p96, List.forall_mem_cons.mpr ⟨lw_p97, List.forall_mem_cons.mpr ⟨lw_p98, List.forall_mem_cons.mpr ⟨lw_p99, List.forall_mem_cons.mpr ⟨lw_p100, fun _ h => absurd h List.not_mem_nil⟩⟩⟩⟩⟩
def lw_privs : List (MethodName × Nat) := lw_privs_1 ++ (lw_privs_2 ++ (lw_privs_3 ++ (lw_privs_4 ++ (lw_privs_5 ++ (lw_privs_6 ++ (lw_privs_7))))))
def lw_tbl : List Cond := k2_sels lw_privs ++ tables_1
theorem lw_privs_ok : ∀ q ∈ lw_privs, lw_okq q := by
  show ∀ q ∈ lw_privs_1 ++ (lw_privs_2 ++ (lw_privs_3 ++ (lw_privs_4 ++ (lw_privs_5 ++ (lw_privs_6 ++ (lw_privs_7)))))), lw_okq q
  exact List.forall_mem_append.mpr ⟨lw_r1, List.forall_mem_append.mpr ⟨lw_r2, List.forall_mem_append.mpr ⟨lw_r3, List.forall_mem_append.mpr ⟨lw_r4, List.forall_mem_append.mpr ⟨lw_r5, List.forall_mem_append.mpr ⟨lw_r6, lw_r7⟩⟩⟩⟩⟩⟩
def RX0 : String := "KingdomSurvey$FewestFall"
def TX0 : u_T := fun k => match k with
  | 0 => ("KingdomSurvey$FewestFall", "claims", "[I", true)
  | 1 => ("KingdomSurvey$FewestFall", "hides", "[I", true)
  | 2 => ("KingdomSurvey$FewestFall", "chosen", "[I", true)
  | 3 => ("KingdomSurvey$FewestFall", "claimCount", "I", false)
  | _ => ("KingdomSurvey$FewestFall", "chosenCount", "I", false)
def tyX0 : Nat → FieldType := fun k => match k with
  | 0 => .array .int
  | 1 => .array .int
  | 2 => .array .int
  | 3 => .int
  | _ => .int
theorem nmX0 : ∀ a, a < 5 → ∀ b, b < 5 → a ≠ b → (TX0 a).2.1 ≠ (TX0 b).2.1 := by decide +kernel
theorem tyX0_ok : ∀ k, k < 5 → parseFieldDescriptor (TX0 k).2.2.1 = some (tyX0 k) := by decide +kernel
def RX1 : String := "KingdomSurvey$Laying"
def TX1 : u_T := fun k => match k with
  | 0 => ("KingdomSurvey$Laying", "own", "[I", true)
  | 1 => ("KingdomSurvey$Laying", "claims", "[I", true)
  | 2 => ("KingdomSurvey$Laying", "apart", "[[I", true)
  | 3 => ("KingdomSurvey$Laying", "least", "[[I", true)
  | 4 => ("KingdomSurvey$Laying", "pairedOwn", "[I", true)
  | 5 => ("KingdomSurvey$Laying", "pairedClaims", "[I", true)
  | 6 => ("KingdomSurvey$Laying", "ownCount", "I", false)
  | 7 => ("KingdomSurvey$Laying", "claimCount", "I", false)
  | 8 => ("KingdomSurvey$Laying", "pairs", "I", false)
  | _ => ("KingdomSurvey$Laying", "difference", "I", false)
def tyX1 : Nat → FieldType := fun k => match k with
  | 0 => .array .int
  | 1 => .array .int
  | 2 => .array (.array .int)
  | 3 => .array (.array .int)
  | 4 => .array .int
  | 5 => .array .int
  | 6 => .int
  | 7 => .int
  | 8 => .int
  | _ => .int
theorem nmX1 : ∀ a, a < 10 → ∀ b, b < 10 → a ≠ b → (TX1 a).2.1 ≠ (TX1 b).2.1 := by decide +kernel
theorem tyX1_ok : ∀ k, k < 10 → parseFieldDescriptor (TX1 k).2.2.1 = some (tyX1 k) := by decide +kernel
def RX2 : String := "KingdomSurvey$Lords"
def TX2 : u_T := fun k => match k with
  | 0 => ("KingdomSurvey$Lords", "names", "LKingdomSurvey$Names;", true)
  | _ => ("KingdomSurvey$Lords", "overlords", "[I", true)
def tyX2 : Nat → FieldType := fun k => match k with
  | 0 => .object "KingdomSurvey$Names"
  | _ => .array .int
theorem nmX2 : ∀ a, a < 2 → ∀ b, b < 2 → a ≠ b → (TX2 a).2.1 ≠ (TX2 b).2.1 := by decide +kernel
theorem tyX2_ok : ∀ k, k < 2 → parseFieldDescriptor (TX2 k).2.2.1 = some (tyX2 k) := by decide +kernel
def RX3 : String := "KingdomSurvey$Names"
def TX3 : u_T := fun k => match k with
  | 0 => ("KingdomSurvey$Names", "letters", "[B", true)
  | 1 => ("KingdomSurvey$Names", "lengths", "[I", true)
  | 2 => ("KingdomSurvey$Names", "room", "I", true)
  | _ => ("KingdomSurvey$Names", "count", "I", false)
def tyX3 : Nat → FieldType := fun k => match k with
  | 0 => .array .byte
  | 1 => .array .int
  | 2 => .int
  | _ => .int
theorem nmX3 : ∀ a, a < 4 → ∀ b, b < 4 → a ≠ b → (TX3 a).2.1 ≠ (TX3 b).2.1 := by decide +kernel
theorem tyX3_ok : ∀ k, k < 4 → parseFieldDescriptor (TX3 k).2.2.1 = some (tyX3 k) := by decide +kernel
def RX4 : String := "KingdomSurvey$Rates"
def TX4 : u_T := fun k => match k with
  | 0 => ("KingdomSurvey$Rates", "hide", "I", false)
  | 1 => ("KingdomSurvey$Rates", "plough", "I", false)
  | 2 => ("KingdomSurvey$Rates", "mill", "I", false)
  | _ => ("KingdomSurvey$Rates", "share", "I", false)
def tyX4 : Nat → FieldType := fun k => match k with
  | 0 => .int
  | 1 => .int
  | 2 => .int
  | _ => .int
theorem nmX4 : ∀ a, a < 4 → ∀ b, b < 4 → a ≠ b → (TX4 a).2.1 ≠ (TX4 b).2.1 := by decide +kernel
theorem tyX4_ok : ∀ k, k < 4 → parseFieldDescriptor (TX4 k).2.2.1 = some (tyX4 k) := by decide +kernel
def RX5 : String := "KingdomSurvey$Reader"
def TX5 : u_T := fun k => match k with
  | 0 => ("KingdomSurvey$Reader", "tape", "LKingdomSurvey$Tape;", true)
  | 1 => ("KingdomSurvey$Reader", "villages", "LKingdomSurvey$Villages;", true)
  | 2 => ("KingdomSurvey$Reader", "lords", "LKingdomSurvey$Lords;", true)
  | 3 => ("KingdomSurvey$Reader", "draft", "[[I", true)
  | 4 => ("KingdomSurvey$Reader", "written", "I", false)
  | 5 => ("KingdomSurvey$Reader", "fault", "I", false)
  | 6 => ("KingdomSurvey$Reader", "faultPlace", "I", false)
  | 7 => ("KingdomSurvey$Reader", "from", "I", false)
  | 8 => ("KingdomSurvey$Reader", "behind", "I", false)
  | 9 => ("KingdomSurvey$Reader", "kind", "I", false)
  | _ => ("KingdomSurvey$Reader", "end", "I", false)
def tyX5 : Nat → FieldType := fun k => match k with
  | 0 => .object "KingdomSurvey$Tape"
  | 1 => .object "KingdomSurvey$Villages"
  | 2 => .object "KingdomSurvey$Lords"
  | 3 => .array (.array .int)
  | 4 => .int
  | 5 => .int
  | 6 => .int
  | 7 => .int
  | 8 => .int
  | 9 => .int
  | _ => .int
theorem nmX5 : ∀ a, a < 11 → ∀ b, b < 11 → a ≠ b → (TX5 a).2.1 ≠ (TX5 b).2.1 := by decide +kernel
theorem tyX5_ok : ∀ k, k < 11 → parseFieldDescriptor (TX5 k).2.2.1 = some (tyX5 k) := by decide +kernel
def RX6 : String := "KingdomSurvey$Rolls"
def TX6 : u_T := fun k => match k with
  | 0 => ("KingdomSurvey$Rolls", "entries", "[[I", true)
  | 1 => ("KingdomSurvey$Rolls", "returns", "[[I", true)
  | 2 => ("KingdomSurvey$Rolls", "entryCount", "I", false)
  | _ => ("KingdomSurvey$Rolls", "returnCount", "I", false)
def tyX6 : Nat → FieldType := fun k => match k with
  | 0 => .array (.array .int)
  | 1 => .array (.array .int)
  | 2 => .int
  | _ => .int
theorem nmX6 : ∀ a, a < 4 → ∀ b, b < 4 → a ≠ b → (TX6 a).2.1 ≠ (TX6 b).2.1 := by decide +kernel
theorem tyX6_ok : ∀ k, k < 4 → parseFieldDescriptor (TX6 k).2.2.1 = some (tyX6 k) := by decide +kernel
def RX7 : String := "KingdomSurvey$Tape"
def TX7 : u_T := fun k => match k with
  | 0 => ("KingdomSurvey$Tape", "bytes", "[B", true)
  | _ => ("KingdomSurvey$Tape", "length", "I", false)
def tyX7 : Nat → FieldType := fun k => match k with
  | 0 => .array .byte
  | _ => .int
theorem nmX7 : ∀ a, a < 2 → ∀ b, b < 2 → a ≠ b → (TX7 a).2.1 ≠ (TX7 b).2.1 := by decide +kernel
theorem tyX7_ok : ∀ k, k < 2 → parseFieldDescriptor (TX7 k).2.2.1 = some (tyX7 k) := by decide +kernel
def RX8 : String := "KingdomSurvey$Villages"
def TX8 : u_T := fun k => match k with
  | 0 => ("KingdomSurvey$Villages", "names", "LKingdomSurvey$Names;", true)
  | 1 => ("KingdomSurvey$Villages", "hundreds", "[I", true)
  | _ => ("KingdomSurvey$Villages", "hides", "[I", true)
def tyX8 : Nat → FieldType := fun k => match k with
  | 0 => .object "KingdomSurvey$Names"
  | 1 => .array .int
  | _ => .array .int
theorem nmX8 : ∀ a, a < 3 → ∀ b, b < 3 → a ≠ b → (TX8 a).2.1 ≠ (TX8 b).2.1 := by decide +kernel
theorem tyX8_ok : ∀ k, k < 3 → parseFieldDescriptor (TX8 k).2.2.1 = some (tyX8 k) := by decide +kernel
def RX9 : String := "KingdomSurvey"
def TX9 : u_T := fun k => match k with
  | 0 => ("KingdomSurvey", "tape", "LKingdomSurvey$Tape;", true)
  | 1 => ("KingdomSurvey", "villages", "LKingdomSurvey$Villages;", true)
  | 2 => ("KingdomSurvey", "lords", "LKingdomSurvey$Lords;", true)
  | 3 => ("KingdomSurvey", "rolls", "LKingdomSurvey$Rolls;", true)
  | 4 => ("KingdomSurvey", "reader", "LKingdomSurvey$Reader;", true)
  | 5 => ("KingdomSurvey", "fewestFall", "LKingdomSurvey$FewestFall;", true)
  | 6 => ("KingdomSurvey", "laying", "LKingdomSurvey$Laying;", true)
  | 7 => ("KingdomSurvey", "rates", "LKingdomSurvey$Rates;", true)
  | 8 => ("KingdomSurvey", "hundreds", "I", false)
  | _ => ("KingdomSurvey", "trouble", "I", false)
def tyX9 : Nat → FieldType := fun k => match k with
  | 0 => .object "KingdomSurvey$Tape"
  | 1 => .object "KingdomSurvey$Villages"
  | 2 => .object "KingdomSurvey$Lords"
  | 3 => .object "KingdomSurvey$Rolls"
  | 4 => .object "KingdomSurvey$Reader"
  | 5 => .object "KingdomSurvey$FewestFall"
  | 6 => .object "KingdomSurvey$Laying"
  | 7 => .object "KingdomSurvey$Rates"
  | 8 => .int
  | _ => .int
theorem nmX9 : ∀ a, a < 10 → ∀ b, b < 10 → a ≠ b → (TX9 a).2.1 ≠ (TX9 b).2.1 := by decide +kernel
theorem tyX9_ok : ∀ k, k < 10 → parseFieldDescriptor (TX9 k).2.2.1 = some (tyX9 k) := by decide +kernel
def RX10 : String := "KingdomSurveyModel$Stop"
def TX10 : u_T := fun k => match k with
  | 0 => ("java/lang/Throwable", "cause", "Ljava/lang/Throwable;", false)
  | 1 => ("java/lang/Throwable", "stackTrace", "[Ljava/lang/StackTraceElement;", false)
  | 2 => ("java/lang/Throwable", "suppressedExceptions", "Ljava/util/List;", false)
  | 3 => ("java/lang/Throwable", "detailMessage", "Ljava/lang/String;", false)
  | 4 => ("java/lang/Throwable", "backtrace", "Ljava/lang/Object;", false)
  | 5 => ("java/lang/Throwable", "depth", "I", false)
  | 6 => ("KingdomSurveyModel$Stop", "kind", "I", false)
  | _ => ("KingdomSurveyModel$Stop", "place", "I", false)
def tyX10 : Nat → FieldType := fun k => match k with
  | 0 => .object "java/lang/Throwable"
  | 1 => .array (.object "java/lang/StackTraceElement")
  | 2 => .object "java/util/List"
  | 3 => .object "java/lang/String"
  | 4 => .object "java/lang/Object"
  | 5 => .int
  | 6 => .int
  | _ => .int
theorem nmX10 : ∀ a, a < 8 → ∀ b, b < 8 → a ≠ b → (TX10 a).2.1 ≠ (TX10 b).2.1 := by decide +kernel
theorem tyX10_ok : ∀ k, k < 8 → parseFieldDescriptor (TX10 k).2.2.1 = some (tyX10 k) := by decide +kernel
def RX11 : String := "KingdomSurveyModel"
def TX11 : u_T := fun k => match k with
  | 0 => ("KingdomSurveyModel", "thrown", "I", false)
  | 1 => ("KingdomSurveyModel", "trouble", "I", false)
  | 2 => ("KingdomSurveyModel", "where", "I", false)
  | 3 => ("KingdomSurveyModel", "fault", "I", false)
  | 4 => ("KingdomSurveyModel", "stop", "LKingdomSurveyModel$Stop;", true)
  | 5 => ("KingdomSurveyModel", "tape", "[B", true)
  | 6 => ("KingdomSurveyModel", "taped", "I", false)
  | 7 => ("KingdomSurveyModel", "size", "I", false)
  | 8 => ("KingdomSurveyModel", "at", "I", false)
  | 9 => ("KingdomSurveyModel", "sort", "I", false)
  | 10 => ("KingdomSurveyModel", "place", "I", false)
  | 11 => ("KingdomSurveyModel", "sign", "I", false)
  | 12 => ("KingdomSurveyModel", "number", "I", false)
  | 13 => ("KingdomSurveyModel", "word", "J", false)
  | 14 => ("KingdomSurveyModel", "hundreds", "I", false)
  | 15 => ("KingdomSurveyModel", "villages", "I", false)
  | 16 => ("KingdomSurveyModel", "lords", "I", false)
  | 17 => ("KingdomSurveyModel", "villageName", "[J", true)
  | 18 => ("KingdomSurveyModel", "lordName", "[J", true)
  | 19 => ("KingdomSurveyModel", "hundredOf", "[I", true)
  | 20 => ("KingdomSurveyModel", "rated", "[I", true)
  | 21 => ("KingdomSurveyModel", "over", "[I", true)
  | 22 => ("KingdomSurveyModel", "returns", "I", false)
  | 23 => ("KingdomSurveyModel", "entries", "I", false)
  | 24 => ("KingdomSurveyModel", "jury", "[I", true)
  | 25 => ("KingdomSurveyModel", "teller", "[I", true)
  | 26 => ("KingdomSurveyModel", "first", "[I", true)
  | 27 => ("KingdomSurveyModel", "many", "[I", true)
  | 28 => ("KingdomSurveyModel", "thing", "[I", true)
  | 29 => ("KingdomSurveyModel", "village", "[I", true)
  | 30 => ("KingdomSurveyModel", "lord", "[I", true)
  | 31 => ("KingdomSurveyModel", "from", "[I", true)
  | 32 => ("KingdomSurveyModel", "claim", "[I", true)
  | 33 => ("KingdomSurveyModel", "fallen", "[I", true)
  | 34 => ("KingdomSurveyModel", "falls", "I", false)
  | 35 => ("KingdomSurveyModel", "own", "[I", true)
  | 36 => ("KingdomSurveyModel", "sworn", "[I", true)
  | 37 => ("KingdomSurveyModel", "chosen", "[I", true)
  | 38 => ("KingdomSurveyModel", "best", "[I", true)
  | 39 => ("KingdomSurveyModel", "pairOwn", "[I", true)
  | 40 => ("KingdomSurveyModel", "pairClaim", "[I", true)
  | 41 => ("KingdomSurveyModel", "owns", "I", false)
  | 42 => ("KingdomSurveyModel", "sworns", "I", false)
  | 43 => ("KingdomSurveyModel", "bestSum", "I", false)
  | 44 => ("KingdomSurveyModel", "pairs", "I", false)
  | 45 => ("KingdomSurveyModel", "difference", "I", false)
  | 46 => ("KingdomSurveyModel", "byHide", "I", false)
  | 47 => ("KingdomSurveyModel", "byPlough", "I", false)
  | 48 => ("KingdomSurveyModel", "byMill", "I", false)
  | _ => ("KingdomSurveyModel", "share", "I", false)
def tyX11 : Nat → FieldType := fun k => match k with
  | 0 => .int
  | 1 => .int
  | 2 => .int
  | 3 => .int
  | 4 => .object "KingdomSurveyModel$Stop"
  | 5 => .array .byte
  | 6 => .int
  | 7 => .int
  | 8 => .int
  | 9 => .int
  | 10 => .int
  | 11 => .int
  | 12 => .int
  | 13 => .long
  | 14 => .int
  | 15 => .int
  | 16 => .int
  | 17 => .array .long
  | 18 => .array .long
  | 19 => .array .int
  | 20 => .array .int
  | 21 => .array .int
  | 22 => .int
  | 23 => .int
  | 24 => .array .int
  | 25 => .array .int
  | 26 => .array .int
  | 27 => .array .int
  | 28 => .array .int
  | 29 => .array .int
  | 30 => .array .int
  | 31 => .array .int
  | 32 => .array .int
  | 33 => .array .int
  | 34 => .int
  | 35 => .array .int
  | 36 => .array .int
  | 37 => .array .int
  | 38 => .array .int
  | 39 => .array .int
  | 40 => .array .int
  | 41 => .int
  | 42 => .int
  | 43 => .int
  | 44 => .int
  | 45 => .int
  | 46 => .int
  | 47 => .int
  | 48 => .int
  | _ => .int
theorem nmX11 : ∀ a, a < 50 → ∀ b, b < 50 → a ≠ b → (TX11 a).2.1 ≠ (TX11 b).2.1 := by decide +kernel
theorem tyX11_ok : ∀ k, k < 50 → parseFieldDescriptor (TX11 k).2.2.1 = some (tyX11 k) := by decide +kernel
