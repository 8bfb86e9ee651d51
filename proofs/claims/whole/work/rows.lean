section
-- ===== PART A: goes FIRST, ahead of the names: the tables' words, and 'selects' of the private methods out of them =====
/-- a private method of a class that the tables say can be made, by its rows of tables_1 -/
def lw_okq (q : MethodName × Nat) : Prop := (q.1.cls ≠ "java/lang/invoke/MethodHandle" ∧ q.1.cls ≠ "java/lang/invoke/VarHandle") ∧ Cond.instantiable q.1.cls q.2 ∈ tables_1 ∧ Cond.privateMethod q.1 ∈ tables_1 ∧ Cond.instanceMethod q.1 ∈ tables_1
theorem lw_p0 : lw_okq (⟨"KingdomSurvey", "refuse", "(I)I"⟩, 10) := ⟨⟨by decide +kernel, by decide +kernel⟩, List.mem_of_getElem? (i := 23) (by decide +kernel), List.mem_of_getElem? (i := 292) (by decide +kernel), List.mem_of_getElem? (i := 293) (by decide +kernel)⟩
theorem lw_p1 : lw_okq (⟨"KingdomSurvey", "allow", "(I)I"⟩, 10) := ⟨⟨by decide +kernel, by decide +kernel⟩, List.mem_of_getElem? (i := 23) (by decide +kernel), List.mem_of_getElem? (i := 296) (by decide +kernel), List.mem_of_getElem? (i := 297) (by decide +kernel)⟩
theorem lw_p2 : lw_okq (⟨"KingdomSurvey$Tape", "hasRoomFor", "(I)Z"⟩, 2) := ⟨⟨by decide +kernel, by decide +kernel⟩, List.mem_of_getElem? (i := 31) (by decide +kernel), List.mem_of_getElem? (i := 304) (by decide +kernel), List.mem_of_getElem? (i := 305) (by decide +kernel)⟩
theorem lw_p3 : lw_okq (⟨"KingdomSurvey$Tape", "append", "(I)V"⟩, 2) := ⟨⟨by decide +kernel, by decide +kernel⟩, List.mem_of_getElem? (i := 31) (by decide +kernel), List.mem_of_getElem? (i := 308) (by decide +kernel), List.mem_of_getElem? (i := 309) (by decide +kernel)⟩
theorem lw_p4 : lw_okq (⟨"KingdomSurvey", "isHundred", "(I)Z"⟩, 10) := ⟨⟨by decide +kernel, by decide +kernel⟩, List.mem_of_getElem? (i := 23) (by decide +kernel), List.mem_of_getElem? (i := 317) (by decide +kernel), List.mem_of_getElem? (i := 318) (by decide +kernel)⟩
theorem lw_p5 : lw_okq (⟨"KingdomSurvey$Tape", "hasFirst", "(I)Z"⟩, 2) := ⟨⟨by decide +kernel, by decide +kernel⟩, List.mem_of_getElem? (i := 31) (by decide +kernel), List.mem_of_getElem? (i := 321) (by decide +kernel), List.mem_of_getElem? (i := 322) (by decide +kernel)⟩
theorem lw_p6 : lw_okq (⟨"KingdomSurvey$Names", "troubleWith", "(LKingdomSurvey$Tape;I)I"⟩, 4) := ⟨⟨by decide +kernel, by decide +kernel⟩, List.mem_of_getElem? (i := 52) (by decide +kernel), List.mem_of_getElem? (i := 328) (by decide +kernel), List.mem_of_getElem? (i := 329) (by decide +kernel)⟩
theorem lw_p7 : lw_okq (⟨"KingdomSurvey$Tape", "signAt", "(I)I"⟩, 2) := ⟨⟨by decide +kernel, by decide +kernel⟩, List.mem_of_getElem? (i := 31) (by decide +kernel), List.mem_of_getElem? (i := 335) (by decide +kernel), List.mem_of_getElem? (i := 336) (by decide +kernel)⟩
theorem lw_p8 : lw_okq (⟨"KingdomSurvey$Tape", "byteAt", "(I)I"⟩, 2) := ⟨⟨by decide +kernel, by decide +kernel⟩, List.mem_of_getElem? (i := 31) (by decide +kernel), List.mem_of_getElem? (i := 339) (by decide +kernel), List.mem_of_getElem? (i := 340) (by decide +kernel)⟩
theorem lw_p9 : lw_okq (⟨"KingdomSurvey$Names", "numberOf", "(LKingdomSurvey$Tape;II)I"⟩, 4) := ⟨⟨by decide +kernel, by decide +kernel⟩, List.mem_of_getElem? (i := 52) (by decide +kernel), List.mem_of_getElem? (i := 343) (by decide +kernel), List.mem_of_getElem? (i := 344) (by decide +kernel)⟩
theorem lw_p10 : lw_okq (⟨"KingdomSurvey$Names", "isSpelled", "(ILKingdomSurvey$Tape;I)Z"⟩, 4) := ⟨⟨by decide +kernel, by decide +kernel⟩, List.mem_of_getElem? (i := 52) (by decide +kernel), List.mem_of_getElem? (i := 347) (by decide +kernel), List.mem_of_getElem? (i := 348) (by decide +kernel)⟩
theorem lw_p11 : lw_okq (⟨"KingdomSurvey$Villages", "enter", "(LKingdomSurvey$Tape;III)V"⟩, 3) := ⟨⟨by decide +kernel, by decide +kernel⟩, List.mem_of_getElem? (i := 46) (by decide +kernel), List.mem_of_getElem? (i := 352) (by decide +kernel), List.mem_of_getElem? (i := 353) (by decide +kernel)⟩
theorem lw_p12 : lw_okq (⟨"KingdomSurvey$Names", "write", "(LKingdomSurvey$Tape;I)I"⟩, 4) := ⟨⟨by decide +kernel, by decide +kernel⟩, List.mem_of_getElem? (i := 52) (by decide +kernel), List.mem_of_getElem? (i := 356) (by decide +kernel), List.mem_of_getElem? (i := 357) (by decide +kernel)⟩
theorem lw_p13 : lw_okq (⟨"KingdomSurvey$Villages", "has", "(I)Z"⟩, 3) := ⟨⟨by decide +kernel, by decide +kernel⟩, List.mem_of_getElem? (i := 46) (by decide +kernel), List.mem_of_getElem? (i := 360) (by decide +kernel), List.mem_of_getElem? (i := 361) (by decide +kernel)⟩
theorem lw_p14 : lw_okq (⟨"KingdomSurvey", "answerNamed", "(LKingdomSurvey$Names;I)I"⟩, 10) := ⟨⟨by decide +kernel, by decide +kernel⟩, List.mem_of_getElem? (i := 23) (by decide +kernel), List.mem_of_getElem? (i := 364) (by decide +kernel), List.mem_of_getElem? (i := 365) (by decide +kernel)⟩
theorem lw_p15 : lw_okq (⟨"KingdomSurvey$Tape", "clear", "()V"⟩, 2) := ⟨⟨by decide +kernel, by decide +kernel⟩, List.mem_of_getElem? (i := 31) (by decide +kernel), List.mem_of_getElem? (i := 368) (by decide +kernel), List.mem_of_getElem? (i := 369) (by decide +kernel)⟩
def lw_privs_1 : List (MethodName × Nat) := [(⟨"KingdomSurvey", "refuse", "(I)I"⟩, 10), (⟨"KingdomSurvey", "allow", "(I)I"⟩, 10), (⟨"KingdomSurvey$Tape", "hasRoomFor", "(I)Z"⟩, 2), (⟨"KingdomSurvey$Tape", "append", "(I)V"⟩, 2), (⟨"KingdomSurvey", "isHundred", "(I)Z"⟩, 10), (⟨"KingdomSurvey$Tape", "hasFirst", "(I)Z"⟩, 2), (⟨"KingdomSurvey$Names", "troubleWith", "(LKingdomSurvey$Tape;I)I"⟩, 4), (⟨"KingdomSurvey$Tape", "signAt", "(I)I"⟩, 2), (⟨"KingdomSurvey$Tape", "byteAt", "(I)I"⟩, 2), (⟨"KingdomSurvey$Names", "numberOf", "(LKingdomSurvey$Tape;II)I"⟩, 4), (⟨"KingdomSurvey$Names", "isSpelled", "(ILKingdomSurvey$Tape;I)Z"⟩, 4), (⟨"KingdomSurvey$Villages", "enter", "(LKingdomSurvey$Tape;III)V"⟩, 3), (⟨"KingdomSurvey$Names", "write", "(LKingdomSurvey$Tape;I)I"⟩, 4), (⟨"KingdomSurvey$Villages", "has", "(I)Z"⟩, 3), (⟨"KingdomSurvey", "answerNamed", "(LKingdomSurvey$Names;I)I"⟩, 10), (⟨"KingdomSurvey$Tape", "clear", "()V"⟩, 2)]
theorem lw_r1 : ∀ q ∈ lw_privs_1, lw_okq q := List.forall_mem_cons.mpr ⟨lw_p0, List.forall_mem_cons.mpr ⟨lw_p1, List.forall_mem_cons.mpr ⟨lw_p2, List.forall_mem_cons.mpr ⟨lw_p3, List.forall_mem_cons.mpr ⟨lw_p4, List.forall_mem_cons.mpr ⟨lw_p5, List.forall_mem_cons.mpr ⟨lw_p6, List.forall_mem_cons.mpr ⟨lw_p7, List.forall_mem_cons.mpr ⟨lw_p8, List.forall_mem_cons.mpr ⟨lw_p9, List.forall_mem_cons.mpr ⟨lw_p10, List.forall_mem_cons.mpr ⟨lw_p11, List.forall_mem_cons.mpr ⟨lw_p12, List.forall_mem_cons.mpr ⟨lw_p13, List.forall_mem_cons.mpr ⟨lw_p14, List.forall_mem_cons.mpr ⟨lw_p15, fun _ h => absurd h List.not_mem_nil⟩⟩⟩⟩⟩⟩⟩⟩⟩⟩⟩⟩⟩⟩⟩⟩
theorem lw_p16 : lw_okq (⟨"KingdomSurvey$Lords", "has", "(I)Z"⟩, 2) := ⟨⟨by decide +kernel, by decide +kernel⟩, List.mem_of_getElem? (i := 90) (by decide +kernel), List.mem_of_getElem? (i := 376) (by decide +kernel), List.mem_of_getElem? (i := 377) (by decide +kernel)⟩
theorem lw_p17 : lw_okq (⟨"KingdomSurvey$Lords", "enter", "(LKingdomSurvey$Tape;II)V"⟩, 2) := ⟨⟨by decide +kernel, by decide +kernel⟩, List.mem_of_getElem? (i := 90) (by decide +kernel), List.mem_of_getElem? (i := 380) (by decide +kernel), List.mem_of_getElem? (i := 381) (by decide +kernel)⟩
theorem lw_p18 : lw_okq (⟨"KingdomSurvey$Lords", "putUnder", "(II)V"⟩, 2) := ⟨⟨by decide +kernel, by decide +kernel⟩, List.mem_of_getElem? (i := 90) (by decide +kernel), List.mem_of_getElem? (i := 385) (by decide +kernel), List.mem_of_getElem? (i := 386) (by decide +kernel)⟩
theorem lw_p19 : lw_okq (⟨"KingdomSurvey$Lords", "isBelow", "(II)Z"⟩, 2) := ⟨⟨by decide +kernel, by decide +kernel⟩, List.mem_of_getElem? (i := 90) (by decide +kernel), List.mem_of_getElem? (i := 394) (by decide +kernel), List.mem_of_getElem? (i := 395) (by decide +kernel)⟩
theorem lw_p20 : lw_okq (⟨"KingdomSurvey$Lords", "overlordOf", "(I)I"⟩, 2) := ⟨⟨by decide +kernel, by decide +kernel⟩, List.mem_of_getElem? (i := 90) (by decide +kernel), List.mem_of_getElem? (i := 398) (by decide +kernel), List.mem_of_getElem? (i := 399) (by decide +kernel)⟩
theorem lw_p21 : lw_okq (⟨"KingdomSurvey$Reader", "readText", "(II)Z"⟩, 11) := ⟨⟨by decide +kernel, by decide +kernel⟩, List.mem_of_getElem? (i := 132) (by decide +kernel), List.mem_of_getElem? (i := 407) (by decide +kernel), List.mem_of_getElem? (i := 408) (by decide +kernel)⟩
theorem lw_p22 : lw_okq (⟨"KingdomSurvey$Reader", "step", "()V"⟩, 11) := ⟨⟨by decide +kernel, by decide +kernel⟩, List.mem_of_getElem? (i := 132) (by decide +kernel), List.mem_of_getElem? (i := 411) (by decide +kernel), List.mem_of_getElem? (i := 412) (by decide +kernel)⟩
theorem lw_p23 : lw_okq (⟨"KingdomSurvey$Reader", "readEntry", "(I)Z"⟩, 11) := ⟨⟨by decide +kernel, by decide +kernel⟩, List.mem_of_getElem? (i := 132) (by decide +kernel), List.mem_of_getElem? (i := 417) (by decide +kernel), List.mem_of_getElem? (i := 418) (by decide +kernel)⟩
theorem lw_p24 : lw_okq (⟨"KingdomSurvey$Reader", "says", "(Ljava/lang/String;)Z"⟩, 11) := ⟨⟨by decide +kernel, by decide +kernel⟩, List.mem_of_getElem? (i := 132) (by decide +kernel), List.mem_of_getElem? (i := 422) (by decide +kernel), List.mem_of_getElem? (i := 423) (by decide +kernel)⟩
theorem lw_p25 : lw_okq (⟨"KingdomSurvey$Reader", "blame", "(I)Z"⟩, 11) := ⟨⟨by decide +kernel, by decide +kernel⟩, List.mem_of_getElem? (i := 132) (by decide +kernel), List.mem_of_getElem? (i := 475) (by decide +kernel), List.mem_of_getElem? (i := 476) (by decide +kernel)⟩
theorem lw_p26 : lw_okq (⟨"KingdomSurvey$Villages", "hundredOf", "(I)I"⟩, 3) := ⟨⟨by decide +kernel, by decide +kernel⟩, List.mem_of_getElem? (i := 46) (by decide +kernel), List.mem_of_getElem? (i := 480) (by decide +kernel), List.mem_of_getElem? (i := 481) (by decide +kernel)⟩
theorem lw_p27 : lw_okq (⟨"KingdomSurvey$Reader", "draftEntry", "(II)V"⟩, 11) := ⟨⟨by decide +kernel, by decide +kernel⟩, List.mem_of_getElem? (i := 132) (by decide +kernel), List.mem_of_getElem? (i := 485) (by decide +kernel), List.mem_of_getElem? (i := 486) (by decide +kernel)⟩
theorem lw_p28 : lw_okq (⟨"KingdomSurvey$Reader", "readItems", "()Z"⟩, 11) := ⟨⟨by decide +kernel, by decide +kernel⟩, List.mem_of_getElem? (i := 132) (by decide +kernel), List.mem_of_getElem? (i := 489) (by decide +kernel), List.mem_of_getElem? (i := 490) (by decide +kernel)⟩
theorem lw_p29 : lw_okq (⟨"KingdomSurvey$Reader", "numberInHand", "()I"⟩, 11) := ⟨⟨by decide +kernel, by decide +kernel⟩, List.mem_of_getElem? (i := 132) (by decide +kernel), List.mem_of_getElem? (i := 493) (by decide +kernel), List.mem_of_getElem? (i := 494) (by decide +kernel)⟩
theorem lw_p30 : lw_okq (⟨"KingdomSurvey$Reader", "thingInHand", "()I"⟩, 11) := ⟨⟨by decide +kernel, by decide +kernel⟩, List.mem_of_getElem? (i := 132) (by decide +kernel), List.mem_of_getElem? (i := 497) (by decide +kernel), List.mem_of_getElem? (i := 498) (by decide +kernel)⟩
theorem lw_p31 : lw_okq (⟨"KingdomSurvey", "settle", "(ZII)I"⟩, 10) := ⟨⟨by decide +kernel, by decide +kernel⟩, List.mem_of_getElem? (i := 23) (by decide +kernel), List.mem_of_getElem? (i := 506) (by decide +kernel), List.mem_of_getElem? (i := 507) (by decide +kernel)⟩
def lw_privs_2 : List (MethodName × Nat) := [(⟨"KingdomSurvey$Lords", "has", "(I)Z"⟩, 2), (⟨"KingdomSurvey$Lords", "enter", "(LKingdomSurvey$Tape;II)V"⟩, 2), (⟨"KingdomSurvey$Lords", "putUnder", "(II)V"⟩, 2), (⟨"KingdomSurvey$Lords", "isBelow", "(II)Z"⟩, 2), (⟨"KingdomSurvey$Lords", "overlordOf", "(I)I"⟩, 2), (⟨"KingdomSurvey$Reader", "readText", "(II)Z"⟩, 11), (⟨"KingdomSurvey$Reader", "step", "()V"⟩, 11), (⟨"KingdomSurvey$Reader", "readEntry", "(I)Z"⟩, 11), (⟨"KingdomSurvey$Reader", "says", "(Ljava/lang/String;)Z"⟩, 11), (⟨"KingdomSurvey$Reader", "blame", "(I)Z"⟩, 11), (⟨"KingdomSurvey$Villages", "hundredOf", "(I)I"⟩, 3), (⟨"KingdomSurvey$Reader", "draftEntry", "(II)V"⟩, 11), (⟨"KingdomSurvey$Reader", "readItems", "()Z"⟩, 11), (⟨"KingdomSurvey$Reader", "numberInHand", "()I"⟩, 11), (⟨"KingdomSurvey$Reader", "thingInHand", "()I"⟩, 11), (⟨"KingdomSurvey", "settle", "(ZII)I"⟩, 10)]
theorem lw_r2 : ∀ q ∈ lw_privs_2, lw_okq q := List.forall_mem_cons.mpr ⟨lw_p16, List.forall_mem_cons.mpr ⟨lw_p17, List.forall_mem_cons.mpr ⟨lw_p18, List.forall_mem_cons.mpr ⟨lw_p19, List.forall_mem_cons.mpr ⟨lw_p20, List.forall_mem_cons.mpr ⟨lw_p21, List.forall_mem_cons.mpr ⟨lw_p22, List.forall_mem_cons.mpr ⟨lw_p23, List.forall_mem_cons.mpr ⟨lw_p24, List.forall_mem_cons.mpr ⟨lw_p25, List.forall_mem_cons.mpr ⟨lw_p26, List.forall_mem_cons.mpr ⟨lw_p27, List.forall_mem_cons.mpr ⟨lw_p28, List.forall_mem_cons.mpr ⟨lw_p29, List.forall_mem_cons.mpr ⟨lw_p30, List.forall_mem_cons.mpr ⟨lw_p31, fun _ h => absurd h List.not_mem_nil⟩⟩⟩⟩⟩⟩⟩⟩⟩⟩⟩⟩⟩⟩⟩⟩
theorem lw_p32 : lw_okq (⟨"KingdomSurvey$Rolls", "take", "(LKingdomSurvey$Reader;II)I"⟩, 4) := ⟨⟨by decide +kernel, by decide +kernel⟩, List.mem_of_getElem? (i := 107) (by decide +kernel), List.mem_of_getElem? (i := 510) (by decide +kernel), List.mem_of_getElem? (i := 511) (by decide +kernel)⟩
theorem lw_p33 : lw_okq (⟨"KingdomSurvey$Rolls", "ofEntry", "(II)I"⟩, 4) := ⟨⟨by decide +kernel, by decide +kernel⟩, List.mem_of_getElem? (i := 107) (by decide +kernel), List.mem_of_getElem? (i := 530) (by decide +kernel), List.mem_of_getElem? (i := 531) (by decide +kernel)⟩
theorem lw_p34 : lw_okq (⟨"KingdomSurvey$Rolls", "ofReturn", "(II)I"⟩, 4) := ⟨⟨by decide +kernel, by decide +kernel⟩, List.mem_of_getElem? (i := 107) (by decide +kernel), List.mem_of_getElem? (i := 538) (by decide +kernel), List.mem_of_getElem? (i := 539) (by decide +kernel)⟩
theorem lw_p35 : lw_okq (⟨"KingdomSurvey", "claimedHides", "(I)I"⟩, 10) := ⟨⟨by decide +kernel, by decide +kernel⟩, List.mem_of_getElem? (i := 23) (by decide +kernel), List.mem_of_getElem? (i := 552) (by decide +kernel), List.mem_of_getElem? (i := 553) (by decide +kernel)⟩
theorem lw_p36 : lw_okq (⟨"KingdomSurvey$Rolls", "isClaimIn", "(II)Z"⟩, 4) := ⟨⟨by decide +kernel, by decide +kernel⟩, List.mem_of_getElem? (i := 107) (by decide +kernel), List.mem_of_getElem? (i := 556) (by decide +kernel), List.mem_of_getElem? (i := 557) (by decide +kernel)⟩
theorem lw_p37 : lw_okq (⟨"KingdomSurvey$Rolls", "isClaim", "(I)Z"⟩, 4) := ⟨⟨by decide +kernel, by decide +kernel⟩, List.mem_of_getElem? (i := 107) (by decide +kernel), List.mem_of_getElem? (i := 561) (by decide +kernel), List.mem_of_getElem? (i := 562) (by decide +kernel)⟩
theorem lw_p38 : lw_okq (⟨"KingdomSurvey$Rolls", "juryOf", "(I)I"⟩, 4) := ⟨⟨by decide +kernel, by decide +kernel⟩, List.mem_of_getElem? (i := 107) (by decide +kernel), List.mem_of_getElem? (i := 565) (by decide +kernel), List.mem_of_getElem? (i := 566) (by decide +kernel)⟩
theorem lw_p39 : lw_okq (⟨"KingdomSurvey$Villages", "hidesOf", "(I)I"⟩, 3) := ⟨⟨by decide +kernel, by decide +kernel⟩, List.mem_of_getElem? (i := 46) (by decide +kernel), List.mem_of_getElem? (i := 574) (by decide +kernel), List.mem_of_getElem? (i := 575) (by decide +kernel)⟩
theorem lw_p40 : lw_okq (⟨"KingdomSurvey", "claimsIn", "(I)I"⟩, 10) := ⟨⟨by decide +kernel, by decide +kernel⟩, List.mem_of_getElem? (i := 23) (by decide +kernel), List.mem_of_getElem? (i := 582) (by decide +kernel), List.mem_of_getElem? (i := 583) (by decide +kernel)⟩
theorem lw_p41 : lw_okq (⟨"KingdomSurvey$FewestFall", "choose", "(LKingdomSurvey$Rolls;II)I"⟩, 5) := ⟨⟨by decide +kernel, by decide +kernel⟩, List.mem_of_getElem? (i := 177) (by decide +kernel), List.mem_of_getElem? (i := 586) (by decide +kernel), List.mem_of_getElem? (i := 587) (by decide +kernel)⟩
theorem lw_p42 : lw_okq (⟨"KingdomSurvey$FewestFall", "gather", "(LKingdomSurvey$Rolls;I)I"⟩, 5) := ⟨⟨by decide +kernel, by decide +kernel⟩, List.mem_of_getElem? (i := 177) (by decide +kernel), List.mem_of_getElem? (i := 590) (by decide +kernel), List.mem_of_getElem? (i := 591) (by decide +kernel)⟩
theorem lw_p43 : lw_okq (⟨"KingdomSurvey$FewestFall", "fewestFor", "(I)I"⟩, 5) := ⟨⟨by decide +kernel, by decide +kernel⟩, List.mem_of_getElem? (i := 177) (by decide +kernel), List.mem_of_getElem? (i := 596) (by decide +kernel), List.mem_of_getElem? (i := 597) (by decide +kernel)⟩
theorem lw_p44 : lw_okq (⟨"KingdomSurvey$FewestFall", "greatestWithout", "(I)I"⟩, 5) := ⟨⟨by decide +kernel, by decide +kernel⟩, List.mem_of_getElem? (i := 177) (by decide +kernel), List.mem_of_getElem? (i := 600) (by decide +kernel), List.mem_of_getElem? (i := 601) (by decide +kernel)⟩
theorem lw_p45 : lw_okq (⟨"KingdomSurvey$FewestFall", "bitOf", "(I)I"⟩, 5) := ⟨⟨by decide +kernel, by decide +kernel⟩, List.mem_of_getElem? (i := 177) (by decide +kernel), List.mem_of_getElem? (i := 604) (by decide +kernel), List.mem_of_getElem? (i := 605) (by decide +kernel)⟩
theorem lw_p46 : lw_okq (⟨"KingdomSurvey$FewestFall", "bestSet", "(II)I"⟩, 5) := ⟨⟨by decide +kernel, by decide +kernel⟩, List.mem_of_getElem? (i := 177) (by decide +kernel), List.mem_of_getElem? (i := 608) (by decide +kernel), List.mem_of_getElem? (i := 609) (by decide +kernel)⟩
theorem lw_p47 : lw_okq (⟨"KingdomSurvey$FewestFall", "hidesOfSet", "(I)I"⟩, 5) := ⟨⟨by decide +kernel, by decide +kernel⟩, List.mem_of_getElem? (i := 177) (by decide +kernel), List.mem_of_getElem? (i := 619) (by decide +kernel), List.mem_of_getElem? (i := 620) (by decide +kernel)⟩
def lw_privs_3 : List (MethodName × Nat) := [(⟨"KingdomSurvey$Rolls", "take", "(LKingdomSurvey$Reader;II)I"⟩, 4), (⟨"KingdomSurvey$Rolls", "ofEntry", "(II)I"⟩, 4), (⟨"KingdomSurvey$Rolls", "ofReturn", "(II)I"⟩, 4), (⟨"KingdomSurvey", "claimedHides", "(I)I"⟩, 10), (⟨"KingdomSurvey$Rolls", "isClaimIn", "(II)Z"⟩, 4), (⟨"KingdomSurvey$Rolls", "isClaim", "(I)Z"⟩, 4), (⟨"KingdomSurvey$Rolls", "juryOf", "(I)I"⟩, 4), (⟨"KingdomSurvey$Villages", "hidesOf", "(I)I"⟩, 3), (⟨"KingdomSurvey", "claimsIn", "(I)I"⟩, 10), (⟨"KingdomSurvey$FewestFall", "choose", "(LKingdomSurvey$Rolls;II)I"⟩, 5), (⟨"KingdomSurvey$FewestFall", "gather", "(LKingdomSurvey$Rolls;I)I"⟩, 5), (⟨"KingdomSurvey$FewestFall", "fewestFor", "(I)I"⟩, 5), (⟨"KingdomSurvey$FewestFall", "greatestWithout", "(I)I"⟩, 5), (⟨"KingdomSurvey$FewestFall", "bitOf", "(I)I"⟩, 5), (⟨"KingdomSurvey$FewestFall", "bestSet", "(II)I"⟩, 5), (⟨"KingdomSurvey$FewestFall", "hidesOfSet", "(I)I"⟩, 5)]
theorem lw_r3 : ∀ q ∈ lw_privs_3, lw_okq q := List.forall_mem_cons.mpr ⟨lw_p32, List.forall_mem_cons.mpr ⟨lw_p33, List.forall_mem_cons.mpr ⟨lw_p34, List.forall_mem_cons.mpr ⟨lw_p35, List.forall_mem_cons.mpr ⟨lw_p36, List.forall_mem_cons.mpr ⟨lw_p37, List.forall_mem_cons.mpr ⟨lw_p38, List.forall_mem_cons.mpr ⟨lw_p39, List.forall_mem_cons.mpr ⟨lw_p40, List.forall_mem_cons.mpr ⟨lw_p41, List.forall_mem_cons.mpr ⟨lw_p42, List.forall_mem_cons.mpr ⟨lw_p43, List.forall_mem_cons.mpr ⟨lw_p44, List.forall_mem_cons.mpr ⟨lw_p45, List.forall_mem_cons.mpr ⟨lw_p46, List.forall_mem_cons.mpr ⟨lw_p47, fun _ h => absurd h List.not_mem_nil⟩⟩⟩⟩⟩⟩⟩⟩⟩⟩⟩⟩⟩⟩⟩⟩
theorem lw_p48 : lw_okq (⟨"KingdomSurvey$FewestFall", "keep", "(I)V"⟩, 5) := ⟨⟨by decide +kernel, by decide +kernel⟩, List.mem_of_getElem? (i := 177) (by decide +kernel), List.mem_of_getElem? (i := 623) (by decide +kernel), List.mem_of_getElem? (i := 624) (by decide +kernel)⟩
theorem lw_p49 : lw_okq (⟨"KingdomSurvey$FewestFall", "fallen", "(I)I"⟩, 5) := ⟨⟨by decide +kernel, by decide +kernel⟩, List.mem_of_getElem? (i := 177) (by decide +kernel), List.mem_of_getElem? (i := 631) (by decide +kernel), List.mem_of_getElem? (i := 632) (by decide +kernel)⟩
theorem lw_p50 : lw_okq (⟨"KingdomSurvey$Laying", "layBeside", "(LKingdomSurvey$Rolls;II)I"⟩, 10) := ⟨⟨by decide +kernel, by decide +kernel⟩, List.mem_of_getElem? (i := 199) (by decide +kernel), List.mem_of_getElem? (i := 647) (by decide +kernel), List.mem_of_getElem? (i := 648) (by decide +kernel)⟩
theorem lw_p51 : lw_okq (⟨"KingdomSurvey$Laying", "gather", "(LKingdomSurvey$Rolls;II)V"⟩, 10) := ⟨⟨by decide +kernel, by decide +kernel⟩, List.mem_of_getElem? (i := 199) (by decide +kernel), List.mem_of_getElem? (i := 651) (by decide +kernel), List.mem_of_getElem? (i := 652) (by decide +kernel)⟩
theorem lw_p52 : lw_okq (⟨"KingdomSurvey$Rolls", "tellerOf", "(I)I"⟩, 4) := ⟨⟨by decide +kernel, by decide +kernel⟩, List.mem_of_getElem? (i := 107) (by decide +kernel), List.mem_of_getElem? (i := 657) (by decide +kernel), List.mem_of_getElem? (i := 658) (by decide +kernel)⟩
theorem lw_p53 : lw_okq (⟨"KingdomSurvey$Laying", "measure", "(LKingdomSurvey$Rolls;)V"⟩, 10) := ⟨⟨by decide +kernel, by decide +kernel⟩, List.mem_of_getElem? (i := 199) (by decide +kernel), List.mem_of_getElem? (i := 661) (by decide +kernel), List.mem_of_getElem? (i := 662) (by decide +kernel)⟩
theorem lw_p54 : lw_okq (⟨"KingdomSurvey$Laying", "weigh", "()V"⟩, 10) := ⟨⟨by decide +kernel, by decide +kernel⟩, List.mem_of_getElem? (i := 199) (by decide +kernel), List.mem_of_getElem? (i := 668) (by decide +kernel), List.mem_of_getElem? (i := 669) (by decide +kernel)⟩
theorem lw_p55 : lw_okq (⟨"KingdomSurvey$Laying", "leastFrom", "(II)I"⟩, 10) := ⟨⟨by decide +kernel, by decide +kernel⟩, List.mem_of_getElem? (i := 199) (by decide +kernel), List.mem_of_getElem? (i := 672) (by decide +kernel), List.mem_of_getElem? (i := 673) (by decide +kernel)⟩
theorem lw_p56 : lw_okq (⟨"KingdomSurvey$Laying", "costOf", "(III)I"⟩, 10) := ⟨⟨by decide +kernel, by decide +kernel⟩, List.mem_of_getElem? (i := 199) (by decide +kernel), List.mem_of_getElem? (i := 677) (by decide +kernel), List.mem_of_getElem? (i := 678) (by decide +kernel)⟩
theorem lw_p57 : lw_okq (⟨"KingdomSurvey$Laying", "keepBest", "()V"⟩, 10) := ⟨⟨by decide +kernel, by decide +kernel⟩, List.mem_of_getElem? (i := 199) (by decide +kernel), List.mem_of_getElem? (i := 682) (by decide +kernel), List.mem_of_getElem? (i := 683) (by decide +kernel)⟩
theorem lw_p58 : lw_okq (⟨"KingdomSurvey$Laying", "firstBest", "(II)I"⟩, 10) := ⟨⟨by decide +kernel, by decide +kernel⟩, List.mem_of_getElem? (i := 199) (by decide +kernel), List.mem_of_getElem? (i := 686) (by decide +kernel), List.mem_of_getElem? (i := 687) (by decide +kernel)⟩
theorem lw_p59 : lw_okq (⟨"KingdomSurvey$Laying", "ofPair", "(IZ)I"⟩, 10) := ⟨⟨by decide +kernel, by decide +kernel⟩, List.mem_of_getElem? (i := 199) (by decide +kernel), List.mem_of_getElem? (i := 698) (by decide +kernel), List.mem_of_getElem? (i := 699) (by decide +kernel)⟩
theorem lw_p60 : lw_okq (⟨"KingdomSurvey", "heldBy", "(IIZ)I"⟩, 10) := ⟨⟨by decide +kernel, by decide +kernel⟩, List.mem_of_getElem? (i := 23) (by decide +kernel), List.mem_of_getElem? (i := 709) (by decide +kernel), List.mem_of_getElem? (i := 710) (by decide +kernel)⟩
theorem lw_p61 : lw_okq (⟨"KingdomSurvey$Lords", "highestOver", "(I)I"⟩, 2) := ⟨⟨by decide +kernel, by decide +kernel⟩, List.mem_of_getElem? (i := 90) (by decide +kernel), List.mem_of_getElem? (i := 722) (by decide +kernel), List.mem_of_getElem? (i := 723) (by decide +kernel)⟩
theorem lw_p62 : lw_okq (⟨"KingdomSurvey$Rates", "become", "(IIII)V"⟩, 4) := ⟨⟨by decide +kernel, by decide +kernel⟩, List.mem_of_getElem? (i := 238) (by decide +kernel), List.mem_of_getElem? (i := 739) (by decide +kernel), List.mem_of_getElem? (i := 740) (by decide +kernel)⟩
theorem lw_p63 : lw_okq (⟨"KingdomSurvey", "taxOf", "(II)I"⟩, 10) := ⟨⟨by decide +kernel, by decide +kernel⟩, List.mem_of_getElem? (i := 23) (by decide +kernel), List.mem_of_getElem? (i := 747) (by decide +kernel), List.mem_of_getElem? (i := 748) (by decide +kernel)⟩
def lw_privs_4 : List (MethodName × Nat) := [(⟨"KingdomSurvey$FewestFall", "keep", "(I)V"⟩, 5), (⟨"KingdomSurvey$FewestFall", "fallen", "(I)I"⟩, 5), (⟨"KingdomSurvey$Laying", "layBeside", "(LKingdomSurvey$Rolls;II)I"⟩, 10), (⟨"KingdomSurvey$Laying", "gather", "(LKingdomSurvey$Rolls;II)V"⟩, 10), (⟨"KingdomSurvey$Rolls", "tellerOf", "(I)I"⟩, 4), (⟨"KingdomSurvey$Laying", "measure", "(LKingdomSurvey$Rolls;)V"⟩, 10), (⟨"KingdomSurvey$Laying", "weigh", "()V"⟩, 10), (⟨"KingdomSurvey$Laying", "leastFrom", "(II)I"⟩, 10), (⟨"KingdomSurvey$Laying", "costOf", "(III)I"⟩, 10), (⟨"KingdomSurvey$Laying", "keepBest", "()V"⟩, 10), (⟨"KingdomSurvey$Laying", "firstBest", "(II)I"⟩, 10), (⟨"KingdomSurvey$Laying", "ofPair", "(IZ)I"⟩, 10), (⟨"KingdomSurvey", "heldBy", "(IIZ)I"⟩, 10), (⟨"KingdomSurvey$Lords", "highestOver", "(I)I"⟩, 2), (⟨"KingdomSurvey$Rates", "become", "(IIII)V"⟩, 4), (⟨"KingdomSurvey", "taxOf", "(II)I"⟩, 10)]
theorem lw_r4 : ∀ q ∈ lw_privs_4, lw_okq q := List.forall_mem_cons.mpr ⟨lw_p48, List.forall_mem_cons.mpr ⟨lw_p49, List.forall_mem_cons.mpr ⟨lw_p50, List.forall_mem_cons.mpr ⟨lw_p51, List.forall_mem_cons.mpr ⟨lw_p52, List.forall_mem_cons.mpr ⟨lw_p53, List.forall_mem_cons.mpr ⟨lw_p54, List.forall_mem_cons.mpr ⟨lw_p55, List.forall_mem_cons.mpr ⟨lw_p56, List.forall_mem_cons.mpr ⟨lw_p57, List.forall_mem_cons.mpr ⟨lw_p58, List.forall_mem_cons.mpr ⟨lw_p59, List.forall_mem_cons.mpr ⟨lw_p60, List.forall_mem_cons.mpr ⟨lw_p61, List.forall_mem_cons.mpr ⟨lw_p62, List.forall_mem_cons.mpr ⟨lw_p63, fun _ h => absurd h List.not_mem_nil⟩⟩⟩⟩⟩⟩⟩⟩⟩⟩⟩⟩⟩⟩⟩⟩
theorem lw_p64 : lw_okq (⟨"KingdomSurvey$Rates", "taxOn", "(LKingdomSurvey$Rolls;II)I"⟩, 4) := ⟨⟨by decide +kernel, by decide +kernel⟩, List.mem_of_getElem? (i := 238) (by decide +kernel), List.mem_of_getElem? (i := 751) (by decide +kernel), List.mem_of_getElem? (i := 752) (by decide +kernel)⟩
theorem lw_p65 : lw_okq (⟨"KingdomSurvey$Rates", "rateOf", "(LKingdomSurvey$Rolls;II)I"⟩, 4) := ⟨⟨by decide +kernel, by decide +kernel⟩, List.mem_of_getElem? (i := 238) (by decide +kernel), List.mem_of_getElem? (i := 755) (by decide +kernel), List.mem_of_getElem? (i := 756) (by decide +kernel)⟩
theorem lw_p66 : lw_okq (⟨"KingdomSurvey$Rates", "limitOf", "(LKingdomSurvey$Rolls;I)I"⟩, 4) := ⟨⟨by decide +kernel, by decide +kernel⟩, List.mem_of_getElem? (i := 238) (by decide +kernel), List.mem_of_getElem? (i := 760) (by decide +kernel), List.mem_of_getElem? (i := 761) (by decide +kernel)⟩
theorem lw_p67 : lw_okq (⟨"KingdomSurvey", "leastRaise", "(I)I"⟩, 10) := ⟨⟨by decide +kernel, by decide +kernel⟩, List.mem_of_getElem? (i := 23) (by decide +kernel), List.mem_of_getElem? (i := 769) (by decide +kernel), List.mem_of_getElem? (i := 770) (by decide +kernel)⟩
theorem lw_p68 : lw_okq (⟨"KingdomSurvey", "allClaims", "()I"⟩, 10) := ⟨⟨by decide +kernel, by decide +kernel⟩, List.mem_of_getElem? (i := 23) (by decide +kernel), List.mem_of_getElem? (i := 791) (by decide +kernel), List.mem_of_getElem? (i := 792) (by decide +kernel)⟩
theorem lw_p69 : lw_okq (⟨"java/lang/Throwable", "fillInStackTrace", "(I)Ljava/lang/Throwable;"⟩, 6) := ⟨⟨by decide +kernel, by decide +kernel⟩, List.mem_of_getElem? (i := 841) (by decide +kernel), List.mem_of_getElem? (i := 839) (by decide +kernel), List.mem_of_getElem? (i := 840) (by decide +kernel)⟩
theorem lw_p70 : lw_okq (⟨"KingdomSurveyModel", "refused", "(I)I"⟩, 50) := ⟨⟨by decide +kernel, by decide +kernel⟩, List.mem_of_getElem? (i := 799) (by decide +kernel), List.mem_of_getElem? (i := 1035) (by decide +kernel), List.mem_of_getElem? (i := 1036) (by decide +kernel)⟩
theorem lw_p71 : lw_okq (⟨"KingdomSurveyModel", "done", "(I)I"⟩, 50) := ⟨⟨by decide +kernel, by decide +kernel⟩, List.mem_of_getElem? (i := 799) (by decide +kernel), List.mem_of_getElem? (i := 1039) (by decide +kernel), List.mem_of_getElem? (i := 1040) (by decide +kernel)⟩
theorem lw_p72 : lw_okq (⟨"KingdomSurveyModel", "isHundred", "(I)Z"⟩, 50) := ⟨⟨by decide +kernel, by decide +kernel⟩, List.mem_of_getElem? (i := 799) (by decide +kernel), List.mem_of_getElem? (i := 1047) (by decide +kernel), List.mem_of_getElem? (i := 1048) (by decide +kernel)⟩
theorem lw_p73 : lw_okq (⟨"KingdomSurveyModel", "isTaped", "(I)Z"⟩, 50) := ⟨⟨by decide +kernel, by decide +kernel⟩, List.mem_of_getElem? (i := 799) (by decide +kernel), List.mem_of_getElem? (i := 1054) (by decide +kernel), List.mem_of_getElem? (i := 1055) (by decide +kernel)⟩
theorem lw_p74 : lw_okq (⟨"KingdomSurveyModel", "oneWord", "(I)J"⟩, 50) := ⟨⟨by decide +kernel, by decide +kernel⟩, List.mem_of_getElem? (i := 799) (by decide +kernel), List.mem_of_getElem? (i := 1058) (by decide +kernel), List.mem_of_getElem? (i := 1059) (by decide +kernel)⟩
theorem lw_p75 : lw_okq (⟨"KingdomSurveyModel", "villageOf", "(J)I"⟩, 50) := ⟨⟨by decide +kernel, by decide +kernel⟩, List.mem_of_getElem? (i := 799) (by decide +kernel), List.mem_of_getElem? (i := 1066) (by decide +kernel), List.mem_of_getElem? (i := 1067) (by decide +kernel)⟩
theorem lw_p76 : lw_okq (⟨"KingdomSurveyModel", "isLord", "(I)Z"⟩, 50) := ⟨⟨by decide +kernel, by decide +kernel⟩, List.mem_of_getElem? (i := 799) (by decide +kernel), List.mem_of_getElem? (i := 1074) (by decide +kernel), List.mem_of_getElem? (i := 1075) (by decide +kernel)⟩
theorem lw_p77 : lw_okq (⟨"KingdomSurveyModel", "lordOf", "(J)I"⟩, 50) := ⟨⟨by decide +kernel, by decide +kernel⟩, List.mem_of_getElem? (i := 799) (by decide +kernel), List.mem_of_getElem? (i := 1078) (by decide +kernel), List.mem_of_getElem? (i := 1079) (by decide +kernel)⟩
theorem lw_p78 : lw_okq (⟨"KingdomSurveyModel", "denied", "(I)Z"⟩, 50) := ⟨⟨by decide +kernel, by decide +kernel⟩, List.mem_of_getElem? (i := 799) (by decide +kernel), List.mem_of_getElem? (i := 1086) (by decide +kernel), List.mem_of_getElem? (i := 1087) (by decide +kernel)⟩
theorem lw_p79 : lw_okq (⟨"KingdomSurveyModel", "isUnder", "(II)Z"⟩, 50) := ⟨⟨by decide +kernel, by decide +kernel⟩, List.mem_of_getElem? (i := 799) (by decide +kernel), List.mem_of_getElem? (i := 1090) (by decide +kernel), List.mem_of_getElem? (i := 1091) (by decide +kernel)⟩
def lw_privs_5 : List (MethodName × Nat) := [(⟨"KingdomSurvey$Rates", "taxOn", "(LKingdomSurvey$Rolls;II)I"⟩, 4), (⟨"KingdomSurvey$Rates", "rateOf", "(LKingdomSurvey$Rolls;II)I"⟩, 4), (⟨"KingdomSurvey$Rates", "limitOf", "(LKingdomSurvey$Rolls;I)I"⟩, 4), (⟨"KingdomSurvey", "leastRaise", "(I)I"⟩, 10), (⟨"KingdomSurvey", "allClaims", "()I"⟩, 10), (⟨"java/lang/Throwable", "fillInStackTrace", "(I)Ljava/lang/Throwable;"⟩, 6), (⟨"KingdomSurveyModel", "refused", "(I)I"⟩, 50), (⟨"KingdomSurveyModel", "done", "(I)I"⟩, 50), (⟨"KingdomSurveyModel", "isHundred", "(I)Z"⟩, 50), (⟨"KingdomSurveyModel", "isTaped", "(I)Z"⟩, 50), (⟨"KingdomSurveyModel", "oneWord", "(I)J"⟩, 50), (⟨"KingdomSurveyModel", "villageOf", "(J)I"⟩, 50), (⟨"KingdomSurveyModel", "isLord", "(I)Z"⟩, 50), (⟨"KingdomSurveyModel", "lordOf", "(J)I"⟩, 50), (⟨"KingdomSurveyModel", "denied", "(I)Z"⟩, 50), (⟨"KingdomSurveyModel", "isUnder", "(II)Z"⟩, 50)]
theorem lw_r5 : ∀ q ∈ lw_privs_5, lw_okq q := List.forall_mem_cons.mpr ⟨lw_p64, List.forall_mem_cons.mpr ⟨lw_p65, List.forall_mem_cons.mpr ⟨lw_p66, List.forall_mem_cons.mpr ⟨lw_p67, List.forall_mem_cons.mpr ⟨lw_p68, List.forall_mem_cons.mpr ⟨lw_p69, List.forall_mem_cons.mpr ⟨lw_p70, List.forall_mem_cons.mpr ⟨lw_p71, List.forall_mem_cons.mpr ⟨lw_p72, List.forall_mem_cons.mpr ⟨lw_p73, List.forall_mem_cons.mpr ⟨lw_p74, List.forall_mem_cons.mpr ⟨lw_p75, List.forall_mem_cons.mpr ⟨lw_p76, List.forall_mem_cons.mpr ⟨lw_p77, List.forall_mem_cons.mpr ⟨lw_p78, List.forall_mem_cons.mpr ⟨lw_p79, fun _ h => absurd h List.not_mem_nil⟩⟩⟩⟩⟩⟩⟩⟩⟩⟩⟩⟩⟩⟩⟩⟩
theorem lw_p80 : lw_okq (⟨"KingdomSurveyModel", "granted", "()Z"⟩, 50) := ⟨⟨by decide +kernel, by decide +kernel⟩, List.mem_of_getElem? (i := 799) (by decide +kernel), List.mem_of_getElem? (i := 1094) (by decide +kernel), List.mem_of_getElem? (i := 1095) (by decide +kernel)⟩
theorem lw_p81 : lw_okq (⟨"KingdomSurveyModel", "takes", "(III)I"⟩, 50) := ⟨⟨by decide +kernel, by decide +kernel⟩, List.mem_of_getElem? (i := 799) (by decide +kernel), List.mem_of_getElem? (i := 1106) (by decide +kernel), List.mem_of_getElem? (i := 1107) (by decide +kernel)⟩
theorem lw_p82 : lw_okq (⟨"KingdomSurveyModel", "starts", "(I)V"⟩, 50) := ⟨⟨by decide +kernel, by decide +kernel⟩, List.mem_of_getElem? (i := 799) (by decide +kernel), List.mem_of_getElem? (i := 1110) (by decide +kernel), List.mem_of_getElem? (i := 1111) (by decide +kernel)⟩
theorem lw_p83 : lw_okq (⟨"KingdomSurveyModel", "next", "()V"⟩, 50) := ⟨⟨by decide +kernel, by decide +kernel⟩, List.mem_of_getElem? (i := 799) (by decide +kernel), List.mem_of_getElem? (i := 1114) (by decide +kernel), List.mem_of_getElem? (i := 1115) (by decide +kernel)⟩
theorem lw_p84 : lw_okq (⟨"KingdomSurveyModel", "byteAt", "(I)I"⟩, 50) := ⟨⟨by decide +kernel, by decide +kernel⟩, List.mem_of_getElem? (i := 799) (by decide +kernel), List.mem_of_getElem? (i := 1118) (by decide +kernel), List.mem_of_getElem? (i := 1119) (by decide +kernel)⟩
theorem lw_p85 : lw_okq (⟨"KingdomSurveyModel", "reads", "(I)I"⟩, 50) := ⟨⟨by decide +kernel, by decide +kernel⟩, List.mem_of_getElem? (i := 799) (by decide +kernel), List.mem_of_getElem? (i := 1125) (by decide +kernel), List.mem_of_getElem? (i := 1126) (by decide +kernel)⟩
theorem lw_p86 : lw_okq (⟨"KingdomSurveyModel", "isWord", "(Ljava/lang/String;)Z"⟩, 50) := ⟨⟨by decide +kernel, by decide +kernel⟩, List.mem_of_getElem? (i := 799) (by decide +kernel), List.mem_of_getElem? (i := 1130) (by decide +kernel), List.mem_of_getElem? (i := 1131) (by decide +kernel)⟩
theorem lw_p87 : lw_okq (⟨"KingdomSurveyModel", "stop", "(II)LKingdomSurveyModel$Stop;"⟩, 50) := ⟨⟨by decide +kernel, by decide +kernel⟩, List.mem_of_getElem? (i := 799) (by decide +kernel), List.mem_of_getElem? (i := 1139) (by decide +kernel), List.mem_of_getElem? (i := 1140) (by decide +kernel)⟩
theorem lw_p88 : lw_okq (⟨"KingdomSurveyModel", "readItems", "(I)V"⟩, 50) := ⟨⟨by decide +kernel, by decide +kernel⟩, List.mem_of_getElem? (i := 799) (by decide +kernel), List.mem_of_getElem? (i := 1144) (by decide +kernel), List.mem_of_getElem? (i := 1145) (by decide +kernel)⟩
theorem lw_p89 : lw_okq (⟨"KingdomSurveyModel", "thingHere", "()I"⟩, 50) := ⟨⟨by decide +kernel, by decide +kernel⟩, List.mem_of_getElem? (i := 799) (by decide +kernel), List.mem_of_getElem? (i := 1148) (by decide +kernel), List.mem_of_getElem? (i := 1149) (by decide +kernel)⟩
theorem lw_p90 : lw_okq (⟨"KingdomSurveyModel", "is", "(I)Z"⟩, 50) := ⟨⟨by decide +kernel, by decide +kernel⟩, List.mem_of_getElem? (i := 799) (by decide +kernel), List.mem_of_getElem? (i := 1157) (by decide +kernel), List.mem_of_getElem? (i := 1158) (by decide +kernel)⟩
theorem lw_p91 : lw_okq (⟨"KingdomSurveyModel", "isVillage", "(I)Z"⟩, 50) := ⟨⟨by decide +kernel, by decide +kernel⟩, List.mem_of_getElem? (i := 799) (by decide +kernel), List.mem_of_getElem? (i := 1185) (by decide +kernel), List.mem_of_getElem? (i := 1186) (by decide +kernel)⟩
theorem lw_p92 : lw_okq (⟨"KingdomSurveyModel", "claimedIn", "(I)I"⟩, 50) := ⟨⟨by decide +kernel, by decide +kernel⟩, List.mem_of_getElem? (i := 799) (by decide +kernel), List.mem_of_getElem? (i := 1189) (by decide +kernel), List.mem_of_getElem? (i := 1190) (by decide +kernel)⟩
theorem lw_p93 : lw_okq (⟨"KingdomSurveyModel", "isClaim", "(I)Z"⟩, 50) := ⟨⟨by decide +kernel, by decide +kernel⟩, List.mem_of_getElem? (i := 799) (by decide +kernel), List.mem_of_getElem? (i := 1193) (by decide +kernel), List.mem_of_getElem? (i := 1194) (by decide +kernel)⟩
theorem lw_p94 : lw_okq (⟨"KingdomSurveyModel", "silentAt", "(I)I"⟩, 50) := ⟨⟨by decide +kernel, by decide +kernel⟩, List.mem_of_getElem? (i := 799) (by decide +kernel), List.mem_of_getElem? (i := 1216) (by decide +kernel), List.mem_of_getElem? (i := 1217) (by decide +kernel)⟩
theorem lw_p95 : lw_okq (⟨"KingdomSurveyModel", "pairs", "(IIII)V"⟩, 50) := ⟨⟨by decide +kernel, by decide +kernel⟩, List.mem_of_getElem? (i := 799) (by decide +kernel), List.mem_of_getElem? (i := 1231) (by decide +kernel), List.mem_of_getElem? (i := 1232) (by decide +kernel)⟩
def lw_privs_6 : List (MethodName × Nat) := [(⟨"KingdomSurveyModel", "granted", "()Z"⟩, 50), (⟨"KingdomSurveyModel", "takes", "(III)I"⟩, 50), (⟨"KingdomSurveyModel", "starts", "(I)V"⟩, 50), (⟨"KingdomSurveyModel", "next", "()V"⟩, 50), (⟨"KingdomSurveyModel", "byteAt", "(I)I"⟩, 50), (⟨"KingdomSurveyModel", "reads", "(I)I"⟩, 50), (⟨"KingdomSurveyModel", "isWord", "(Ljava/lang/String;)Z"⟩, 50), (⟨"KingdomSurveyModel", "stop", "(II)LKingdomSurveyModel$Stop;"⟩, 50), (⟨"KingdomSurveyModel", "readItems", "(I)V"⟩, 50), (⟨"KingdomSurveyModel", "thingHere", "()I"⟩, 50), (⟨"KingdomSurveyModel", "is", "(I)Z"⟩, 50), (⟨"KingdomSurveyModel", "isVillage", "(I)Z"⟩, 50), (⟨"KingdomSurveyModel", "claimedIn", "(I)I"⟩, 50), (⟨"KingdomSurveyModel", "isClaim", "(I)Z"⟩, 50), (⟨"KingdomSurveyModel", "silentAt", "(I)I"⟩, 50), (⟨"KingdomSurveyModel", "pairs", "(IIII)V"⟩, 50)]
theorem lw_r6 : ∀ q ∈ lw_privs_6, lw_okq q := List.forall_mem_cons.mpr ⟨lw_p80, List.forall_mem_cons.mpr ⟨lw_p81, List.forall_mem_cons.mpr ⟨lw_p82, List.forall_mem_cons.mpr ⟨lw_p83, List.forall_mem_cons.mpr ⟨lw_p84, List.forall_mem_cons.mpr ⟨lw_p85, List.forall_mem_cons.mpr ⟨lw_p86, List.forall_mem_cons.mpr ⟨lw_p87, List.forall_mem_cons.mpr ⟨lw_p88, List.forall_mem_cons.mpr ⟨lw_p89, List.forall_mem_cons.mpr ⟨lw_p90, List.forall_mem_cons.mpr ⟨lw_p91, List.forall_mem_cons.mpr ⟨lw_p92, List.forall_mem_cons.mpr ⟨lw_p93, List.forall_mem_cons.mpr ⟨lw_p94, List.forall_mem_cons.mpr ⟨lw_p95, fun _ h => absurd h List.not_mem_nil⟩⟩⟩⟩⟩⟩⟩⟩⟩⟩⟩⟩⟩⟩⟩⟩
theorem lw_p96 : lw_okq (⟨"KingdomSurveyModel", "apart", "(II)I"⟩, 50) := ⟨⟨by decide +kernel, by decide +kernel⟩, List.mem_of_getElem? (i := 799) (by decide +kernel), List.mem_of_getElem? (i := 1235) (by decide +kernel), List.mem_of_getElem? (i := 1236) (by decide +kernel)⟩
theorem lw_p97 : lw_okq (⟨"KingdomSurveyModel", "heldOf", "(IIZ)I"⟩, 50) := ⟨⟨by decide +kernel, by decide +kernel⟩, List.mem_of_getElem? (i := 799) (by decide +kernel), List.mem_of_getElem? (i := 1252) (by decide +kernel), List.mem_of_getElem? (i := 1253) (by decide +kernel)⟩
theorem lw_p98 : lw_okq (⟨"KingdomSurveyModel", "taxOf", "(II)I"⟩, 50) := ⟨⟨by decide +kernel, by decide +kernel⟩, List.mem_of_getElem? (i := 799) (by decide +kernel), List.mem_of_getElem? (i := 1280) (by decide +kernel), List.mem_of_getElem? (i := 1281) (by decide +kernel)⟩
theorem lw_p99 : lw_okq (⟨"KingdomSurveyModel", "ratesOf", "(II)I"⟩, 50) := ⟨⟨by decide +kernel, by decide +kernel⟩, List.mem_of_getElem? (i := 799) (by decide +kernel), List.mem_of_getElem? (i := 1284) (by decide +kernel), List.mem_of_getElem? (i := 1285) (by decide +kernel)⟩
theorem lw_p100 : lw_okq (⟨"KingdomSurveyModel", "shareOf", "(I)I"⟩, 50) := ⟨⟨by decide +kernel, by decide +kernel⟩, List.mem_of_getElem? (i := 799) (by decide +kernel), List.mem_of_getElem? (i := 1288) (by decide +kernel), List.mem_of_getElem? (i := 1289) (by decide +kernel)⟩
def lw_privs_7 : List (MethodName × Nat) := [(⟨"KingdomSurveyModel", "apart", "(II)I"⟩, 50), (⟨"KingdomSurveyModel", "heldOf", "(IIZ)I"⟩, 50), (⟨"KingdomSurveyModel", "taxOf", "(II)I"⟩, 50), (⟨"KingdomSurveyModel", "ratesOf", "(II)I"⟩, 50), (⟨"KingdomSurveyModel", "shareOf", "(I)I"⟩, 50)]
theorem lw_r7 : ∀ q ∈ lw_privs_7, lw_okq q := List.forall_mem_cons.mpr ⟨lw_p96, List.forall_mem_cons.mpr ⟨lw_p97, List.forall_mem_cons.mpr ⟨lw_p98, List.forall_mem_cons.mpr ⟨lw_p99, List.forall_mem_cons.mpr ⟨lw_p100, fun _ h => absurd h List.not_mem_nil⟩⟩⟩⟩⟩
def lw_privs : List (MethodName × Nat) := lw_privs_1 ++ (lw_privs_2 ++ (lw_privs_3 ++ (lw_privs_4 ++ (lw_privs_5 ++ (lw_privs_6 ++ (lw_privs_7))))))
def lw_tbl : List Cond := k2_sels lw_privs ++ tables_1
theorem lw_privs_ok : ∀ q ∈ lw_privs, lw_okq q := by
  show ∀ q ∈ lw_privs_1 ++ (lw_privs_2 ++ (lw_privs_3 ++ (lw_privs_4 ++ (lw_privs_5 ++ (lw_privs_6 ++ (lw_privs_7)))))), lw_okq q
  exact List.forall_mem_append.mpr ⟨lw_r1, List.forall_mem_append.mpr ⟨lw_r2, List.forall_mem_append.mpr ⟨lw_r3, List.forall_mem_append.mpr ⟨lw_r4, List.forall_mem_append.mpr ⟨lw_r5, List.forall_mem_append.mpr ⟨lw_r6, lw_r7⟩⟩⟩⟩⟩⟩
def RX0 : String := "KingdomSurvey$FewestFall"
def TX0 : u_T := fun k => match k with
  | 0 => ("KingdomSurvey$FewestFall", "claims", "[I", true)
  | 1 => ("KingdomSurvey$FewestFall", "hides", "[I", true)
  | 2 => ("KingdomSurvey$FewestFall", "chosen", "[I", true)
  | 3 => ("KingdomSurvey$FewestFall", "claimCount", "I", false)
  | _ => ("KingdomSurvey$FewestFall", "chosenCount", "I", false)
def tyX0 : Nat → FieldType := fun k => match k with
  | 0 => .array .int
  | 1 => .array .int
  | 2 => .array .int
  | 3 => .int
  | _ => .int
theorem nmX0 : ∀ a, a < 5 → ∀ b, b < 5 → a ≠ b → (TX0 a).2.1 ≠ (TX0 b).2.1 := by decide +kernel
theorem tyX0_ok : ∀ k, k < 5 → parseFieldDescriptor (TX0 k).2.2.1 = some (tyX0 k) := by decide +kernel
def RX1 : String := "KingdomSurvey$Laying"
def TX1 : u_T := fun k => match k with
  | 0 => ("KingdomSurvey$Laying", "own", "[I", true)
  | 1 => ("KingdomSurvey$Laying", "claims", "[I", true)
  | 2 => ("KingdomSurvey$Laying", "apart", "[[I", true)
  | 3 => ("KingdomSurvey$Laying", "least", "[[I", true)
  | 4 => ("KingdomSurvey$Laying", "pairedOwn", "[I", true)
  | 5 => ("KingdomSurvey$Laying", "pairedClaims", "[I", true)
  | 6 => ("KingdomSurvey$Laying", "ownCount", "I", false)
  | 7 => ("KingdomSurvey$Laying", "claimCount", "I", false)
  | 8 => ("KingdomSurvey$Laying", "pairs", "I", false)
  | _ => ("KingdomSurvey$Laying", "difference", "I", false)
def tyX1 : Nat → FieldType := fun k => match k with
  | 0 => .array .int
  | 1 => .array .int
  | 2 => .array (.array .int)
  | 3 => .array (.array .int)
  | 4 => .array .int
  | 5 => .array .int
  | 6 => .int
  | 7 => .int
  | 8 => .int
  | _ => .int
theorem nmX1 : ∀ a, a < 10 → ∀ b, b < 10 → a ≠ b → (TX1 a).2.1 ≠ (TX1 b).2.1 := by decide +kernel
theorem tyX1_ok : ∀ k, k < 10 → parseFieldDescriptor (TX1 k).2.2.1 = some (tyX1 k) := by decide +kernel
def RX2 : String := "KingdomSurvey$Lords"
def TX2 : u_T := fun k => match k with
  | 0 => ("KingdomSurvey$Lords", "names", "LKingdomSurvey$Names;", true)
  | _ => ("KingdomSurvey$Lords", "overlords", "[I", true)
def tyX2 : Nat → FieldType := fun k => match k with
  | 0 => .object "KingdomSurvey$Names"
  | _ => .array .int
theorem nmX2 : ∀ a, a < 2 → ∀ b, b < 2 → a ≠ b → (TX2 a).2.1 ≠ (TX2 b).2.1 := by decide +kernel
theorem tyX2_ok : ∀ k, k < 2 → parseFieldDescriptor (TX2 k).2.2.1 = some (tyX2 k) := by decide +kernel
def RX3 : String := "KingdomSurvey$Names"
def TX3 : u_T := fun k => match k with
  | 0 => ("KingdomSurvey$Names", "letters", "[B", true)
  | 1 => ("KingdomSurvey$Names", "lengths", "[I", true)
  | 2 => ("KingdomSurvey$Names", "room", "I", true)
  | _ => ("KingdomSurvey$Names", "count", "I", false)
def tyX3 : Nat → FieldType := fun k => match k with
  | 0 => .array .byte
  | 1 => .array .int
  | 2 => .int
  | _ => .int
theorem nmX3 : ∀ a, a < 4 → ∀ b, b < 4 → a ≠ b → (TX3 a).2.1 ≠ (TX3 b).2.1 := by decide +kernel
theorem tyX3_ok : ∀ k, k < 4 → parseFieldDescriptor (TX3 k).2.2.1 = some (tyX3 k) := by decide +kernel
def RX4 : String := "KingdomSurvey$Rates"
def TX4 : u_T := fun k => match k with
  | 0 => ("KingdomSurvey$Rates", "hide", "I", false)
  | 1 => ("KingdomSurvey$Rates", "plough", "I", false)
  | 2 => ("KingdomSurvey$Rates", "mill", "I", false)
  | _ => ("KingdomSurvey$Rates", "share", "I", false)
def tyX4 : Nat → FieldType := fun k => match k with
  | 0 => .int
  | 1 => .int
  | 2 => .int
  | _ => .int
theorem nmX4 : ∀ a, a < 4 → ∀ b, b < 4 → a ≠ b → (TX4 a).2.1 ≠ (TX4 b).2.1 := by decide +kernel
theorem tyX4_ok : ∀ k, k < 4 → parseFieldDescriptor (TX4 k).2.2.1 = some (tyX4 k) := by decide +kernel
def RX5 : String := "KingdomSurvey$Reader"
def TX5 : u_T := fun k => match k with
  | 0 => ("KingdomSurvey$Reader", "tape", "LKingdomSurvey$Tape;", true)
  | 1 => ("KingdomSurvey$Reader", "villages", "LKingdomSurvey$Villages;", true)
  | 2 => ("KingdomSurvey$Reader", "lords", "LKingdomSurvey$Lords;", true)
  | 3 => ("KingdomSurvey$Reader", "draft", "[[I", true)
  | 4 => ("KingdomSurvey$Reader", "written", "I", false)
  | 5 => ("KingdomSurvey$Reader", "fault", "I", false)
  | 6 => ("KingdomSurvey$Reader", "faultPlace", "I", false)
  | 7 => ("KingdomSurvey$Reader", "from", "I", false)
  | 8 => ("KingdomSurvey$Reader", "behind", "I", false)
  | 9 => ("KingdomSurvey$Reader", "kind", "I", false)
  | _ => ("KingdomSurvey$Reader", "end", "I", false)
def tyX5 : Nat → FieldType := fun k => match k with
  | 0 => .object "KingdomSurvey$Tape"
  | 1 => .object "KingdomSurvey$Villages"
  | 2 => .object "KingdomSurvey$Lords"
  | 3 => .array (.array .int)
  | 4 => .int
  | 5 => .int
  | 6 => .int
  | 7 => .int
  | 8 => .int
  | 9 => .int
  | _ => .int
theorem nmX5 : ∀ a, a < 11 → ∀ b, b < 11 → a ≠ b → (TX5 a).2.1 ≠ (TX5 b).2.1 := by decide +kernel
theorem tyX5_ok : ∀ k, k < 11 → parseFieldDescriptor (TX5 k).2.2.1 = some (tyX5 k) := by decide +kernel
def RX6 : String := "KingdomSurvey$Rolls"
def TX6 : u_T := fun k => match k with
  | 0 => ("KingdomSurvey$Rolls", "entries", "[[I", true)
  | 1 => ("KingdomSurvey$Rolls", "returns", "[[I", true)
  | 2 => ("KingdomSurvey$Rolls", "entryCount", "I", false)
  | _ => ("KingdomSurvey$Rolls", "returnCount", "I", false)
def tyX6 : Nat → FieldType := fun k => match k with
  | 0 => .array (.array .int)
  | 1 => .array (.array .int)
  | 2 => .int
  | _ => .int
theorem nmX6 : ∀ a, a < 4 → ∀ b, b < 4 → a ≠ b → (TX6 a).2.1 ≠ (TX6 b).2.1 := by decide +kernel
theorem tyX6_ok : ∀ k, k < 4 → parseFieldDescriptor (TX6 k).2.2.1 = some (tyX6 k) := by decide +kernel
def RX7 : String := "KingdomSurvey$Tape"
def TX7 : u_T := fun k => match k with
  | 0 => ("KingdomSurvey$Tape", "bytes", "[B", true)
  | _ => ("KingdomSurvey$Tape", "length", "I", false)
def tyX7 : Nat → FieldType := fun k => match k with
  | 0 => .array .byte
  | _ => .int
theorem nmX7 : ∀ a, a < 2 → ∀ b, b < 2 → a ≠ b → (TX7 a).2.1 ≠ (TX7 b).2.1 := by decide +kernel
theorem tyX7_ok : ∀ k, k < 2 → parseFieldDescriptor (TX7 k).2.2.1 = some (tyX7 k) := by decide +kernel
def RX8 : String := "KingdomSurvey$Villages"
def TX8 : u_T := fun k => match k with
  | 0 => ("KingdomSurvey$Villages", "names", "LKingdomSurvey$Names;", true)
  | 1 => ("KingdomSurvey$Villages", "hundreds", "[I", true)
  | _ => ("KingdomSurvey$Villages", "hides", "[I", true)
def tyX8 : Nat → FieldType := fun k => match k with
  | 0 => .object "KingdomSurvey$Names"
  | 1 => .array .int
  | _ => .array .int
theorem nmX8 : ∀ a, a < 3 → ∀ b, b < 3 → a ≠ b → (TX8 a).2.1 ≠ (TX8 b).2.1 := by decide +kernel
theorem tyX8_ok : ∀ k, k < 3 → parseFieldDescriptor (TX8 k).2.2.1 = some (tyX8 k) := by decide +kernel
def RX9 : String := "KingdomSurvey"
def TX9 : u_T := fun k => match k with
  | 0 => ("KingdomSurvey", "tape", "LKingdomSurvey$Tape;", true)
  | 1 => ("KingdomSurvey", "villages", "LKingdomSurvey$Villages;", true)
  | 2 => ("KingdomSurvey", "lords", "LKingdomSurvey$Lords;", true)
  | 3 => ("KingdomSurvey", "rolls", "LKingdomSurvey$Rolls;", true)
  | 4 => ("KingdomSurvey", "reader", "LKingdomSurvey$Reader;", true)
  | 5 => ("KingdomSurvey", "fewestFall", "LKingdomSurvey$FewestFall;", true)
  | 6 => ("KingdomSurvey", "laying", "LKingdomSurvey$Laying;", true)
  | 7 => ("KingdomSurvey", "rates", "LKingdomSurvey$Rates;", true)
  | 8 => ("KingdomSurvey", "hundreds", "I", false)
  | _ => ("KingdomSurvey", "trouble", "I", false)
def tyX9 : Nat → FieldType := fun k => match k with
  | 0 => .object "KingdomSurvey$Tape"
  | 1 => .object "KingdomSurvey$Villages"
  | 2 => .object "KingdomSurvey$Lords"
  | 3 => .object "KingdomSurvey$Rolls"
  | 4 => .object "KingdomSurvey$Reader"
  | 5 => .object "KingdomSurvey$FewestFall"
  | 6 => .object "KingdomSurvey$Laying"
  | 7 => .object "KingdomSurvey$Rates"
  | 8 => .int
  | _ => .int
theorem nmX9 : ∀ a, a < 10 → ∀ b, b < 10 → a ≠ b → (TX9 a).2.1 ≠ (TX9 b).2.1 := by decide +kernel
theorem tyX9_ok : ∀ k, k < 10 → parseFieldDescriptor (TX9 k).2.2.1 = some (tyX9 k) := by decide +kernel
def RX10 : String := "KingdomSurveyModel$Stop"
def TX10 : u_T := fun k => match k with
  | 0 => ("java/lang/Throwable", "cause", "Ljava/lang/Throwable;", false)
  | 1 => ("java/lang/Throwable", "stackTrace", "[Ljava/lang/StackTraceElement;", false)
  | 2 => ("java/lang/Throwable", "suppressedExceptions", "Ljava/util/List;", false)
  | 3 => ("java/lang/Throwable", "detailMessage", "Ljava/lang/String;", false)
  | 4 => ("java/lang/Throwable", "backtrace", "Ljava/lang/Object;", false)
  | 5 => ("java/lang/Throwable", "depth", "I", false)
  | 6 => ("KingdomSurveyModel$Stop", "kind", "I", false)
  | _ => ("KingdomSurveyModel$Stop", "place", "I", false)
def tyX10 : Nat → FieldType := fun k => match k with
  | 0 => .object "java/lang/Throwable"
  | 1 => .array (.object "java/lang/StackTraceElement")
  | 2 => .object "java/util/List"
  | 3 => .object "java/lang/String"
  | 4 => .object "java/lang/Object"
  | 5 => .int
  | 6 => .int
  | _ => .int
theorem nmX10 : ∀ a, a < 8 → ∀ b, b < 8 → a ≠ b → (TX10 a).2.1 ≠ (TX10 b).2.1 := by decide +kernel
theorem tyX10_ok : ∀ k, k < 8 → parseFieldDescriptor (TX10 k).2.2.1 = some (tyX10 k) := by decide +kernel
def RX11 : String := "KingdomSurveyModel"
def TX11 : u_T := fun k => match k with
  | 0 => ("KingdomSurveyModel", "thrown", "I", false)
  | 1 => ("KingdomSurveyModel", "trouble", "I", false)
  | 2 => ("KingdomSurveyModel", "where", "I", false)
  | 3 => ("KingdomSurveyModel", "fault", "I", false)
  | 4 => ("KingdomSurveyModel", "stop", "LKingdomSurveyModel$Stop;", true)
  | 5 => ("KingdomSurveyModel", "tape", "[B", true)
  | 6 => ("KingdomSurveyModel", "taped", "I", false)
  | 7 => ("KingdomSurveyModel", "size", "I", false)
  | 8 => ("KingdomSurveyModel", "at", "I", false)
  | 9 => ("KingdomSurveyModel", "sort", "I", false)
  | 10 => ("KingdomSurveyModel", "place", "I", false)
  | 11 => ("KingdomSurveyModel", "sign", "I", false)
  | 12 => ("KingdomSurveyModel", "number", "I", false)
  | 13 => ("KingdomSurveyModel", "word", "J", false)
  | 14 => ("KingdomSurveyModel", "hundreds", "I", false)
  | 15 => ("KingdomSurveyModel", "villages", "I", false)
  | 16 => ("KingdomSurveyModel", "lords", "I", false)
  | 17 => ("KingdomSurveyModel", "villageName", "[J", true)
  | 18 => ("KingdomSurveyModel", "lordName", "[J", true)
  | 19 => ("KingdomSurveyModel", "hundredOf", "[I", true)
  | 20 => ("KingdomSurveyModel", "rated", "[I", true)
  | 21 => ("KingdomSurveyModel", "over", "[I", true)
  | 22 => ("KingdomSurveyModel", "returns", "I", false)
  | 23 => ("KingdomSurveyModel", "entries", "I", false)
  | 24 => ("KingdomSurveyModel", "jury", "[I", true)
  | 25 => ("KingdomSurveyModel", "teller", "[I", true)
  | 26 => ("KingdomSurveyModel", "first", "[I", true)
  | 27 => ("KingdomSurveyModel", "many", "[I", true)
  | 28 => ("KingdomSurveyModel", "thing", "[I", true)
  | 29 => ("KingdomSurveyModel", "village", "[I", true)
  | 30 => ("KingdomSurveyModel", "lord", "[I", true)
  | 31 => ("KingdomSurveyModel", "from", "[I", true)
  | 32 => ("KingdomSurveyModel", "claim", "[I", true)
  | 33 => ("KingdomSurveyModel", "fallen", "[I", true)
  | 34 => ("KingdomSurveyModel", "falls", "I", false)
  | 35 => ("KingdomSurveyModel", "own", "[I", true)
  | 36 => ("KingdomSurveyModel", "sworn", "[I", true)
  | 37 => ("KingdomSurveyModel", "chosen", "[I", true)
  | 38 => ("KingdomSurveyModel", "best", "[I", true)
  | 39 => ("KingdomSurveyModel", "pairOwn", "[I", true)
  | 40 => ("KingdomSurveyModel", "pairClaim", "[I", true)
  | 41 => ("KingdomSurveyModel", "owns", "I", false)
  | 42 => ("KingdomSurveyModel", "sworns", "I", false)
  | 43 => ("KingdomSurveyModel", "bestSum", "I", false)
  | 44 => ("KingdomSurveyModel", "pairs", "I", false)
  | 45 => ("KingdomSurveyModel", "difference", "I", false)
  | 46 => ("KingdomSurveyModel", "byHide", "I", false)
  | 47 => ("KingdomSurveyModel", "byPlough", "I", false)
  | 48 => ("KingdomSurveyModel", "byMill", "I", false)
  | _ => ("KingdomSurveyModel", "share", "I", false)
def tyX11 : Nat → FieldType := fun k => match k with
  | 0 => .int
  | 1 => .int
  | 2 => .int
  | 3 => .int
  | 4 => .object "KingdomSurveyModel$Stop"
  | 5 => .array .byte
  | 6 => .int
  | 7 => .int
  | 8 => .int
  | 9 => .int
  | 10 => .int
  | 11 => .int
  | 12 => .int
  | 13 => .long
  | 14 => .int
  | 15 => .int
  | 16 => .int
  | 17 => .array .long
  | 18 => .array .long
  | 19 => .array .int
  | 20 => .array .int
  | 21 => .array .int
  | 22 => .int
  | 23 => .int
  | 24 => .array .int
  | 25 => .array .int
  | 26 => .array .int
  | 27 => .array .int
  | 28 => .array .int
  | 29 => .array .int
  | 30 => .array .int
  | 31 => .array .int
  | 32 => .array .int
  | 33 => .array .int
  | 34 => .int
  | 35 => .array .int
  | 36 => .array .int
  | 37 => .array .int
  | 38 => .array .int
  | 39 => .array .int
  | 40 => .array .int
  | 41 => .int
  | 42 => .int
  | 43 => .int
  | 44 => .int
  | 45 => .int
  | 46 => .int
  | 47 => .int
  | 48 => .int
  | _ => .int
theorem nmX11 : ∀ a, a < 50 → ∀ b, b < 50 → a ≠ b → (TX11 a).2.1 ≠ (TX11 b).2.1 := by decide +kernel
theorem tyX11_ok : ∀ k, k < 50 → parseFieldDescriptor (TX11 k).2.2.1 = some (tyX11 k) := by decide +kernel
end
section
abbrev RI : Type := Instr × Nat × Nat × Nat × Nat × Int64
def rc_0 (pc : Nat) : Option RI := cond (Nat.ble 115 pc) none (cond (Nat.ble 57 pc) (cond (Nat.ble 87 pc) (cond (Nat.ble 104 pc) (cond (Nat.ble 109 pc) (cond (Nat.ble 111 pc) (cond (Nat.ble 114 pc) (cond (Nat.beq pc 114) (some (.return_, 115, 0, 0, 0, 0)) none) (cond (Nat.beq pc 111) (some (.putfield 71, 114, 9, 9, 366, 0)) none)) (cond (Nat.ble 110 pc) (cond (Nat.beq pc 110) (some (.iconst 0, 111, 0, 0, 0, 0)) none) (cond (Nat.beq pc 109) (some (.aload_n 0, 110, 0, 0, 0, 0)) none))) (cond (Nat.ble 105 pc) (cond (Nat.ble 106 pc) (cond (Nat.beq pc 106) (some (.putfield 67, 109, 9, 8, 365, 0)) none) (cond (Nat.beq pc 105) (some (.iconst 0, 106, 0, 0, 0, 0)) none)) (cond (Nat.beq pc 104) (some (.aload_n 0, 105, 0, 0, 0, 0)) none))) (cond (Nat.ble 94 pc) (cond (Nat.ble 98 pc) (cond (Nat.ble 101 pc) (cond (Nat.beq pc 101) (some (.putfield 63, 104, 9, 7, 364, 0)) none) (cond (Nat.beq pc 98) (some (.invokespecial 62, 101, 10, 1, 340, 0)) none)) (cond (Nat.ble 97 pc) (cond (Nat.beq pc 97) (some (.dup, 98, 0, 0, 0, 0)) none) (cond (Nat.beq pc 94) (some (.new 60, 97, 4, 0, 338, 0)) none))) (cond (Nat.ble 90 pc) (cond (Nat.ble 93 pc) (cond (Nat.beq pc 93) (some (.aload_n 0, 94, 0, 0, 0, 0)) none) (cond (Nat.beq pc 90) (some (.putfield 56, 93, 9, 6, 363, 0)) none)) (cond (Nat.beq pc 87) (some (.invokespecial 55, 90, 9, 1, 301, 0)) none)))) (cond (Nat.ble 72 pc) (cond (Nat.ble 79 pc) (cond (Nat.ble 83 pc) (cond (Nat.ble 86 pc) (cond (Nat.beq pc 86) (some (.dup, 87, 0, 0, 0, 0)) none) (cond (Nat.beq pc 83) (some (.new 53, 86, 1, 0, 299, 0)) none)) (cond (Nat.ble 82 pc) (cond (Nat.beq pc 82) (some (.aload_n 0, 83, 0, 0, 0, 0)) none) (cond (Nat.beq pc 79) (some (.putfield 49, 82, 9, 5, 362, 0)) none))) (cond (Nat.ble 75 pc) (cond (Nat.ble 76 pc) (cond (Nat.beq pc 76) (some (.invokespecial 48, 79, 8, 1, 279, 0)) none) (cond (Nat.beq pc 75) (some (.dup, 76, 0, 0, 0, 0)) none)) (cond (Nat.beq pc 72) (some (.new 46, 75, 0, 0, 277, 0)) none))) (cond (Nat.ble 62 pc) (cond (Nat.ble 68 pc) (cond (Nat.ble 71 pc) (cond (Nat.beq pc 71) (some (.aload_n 0, 72, 0, 0, 0, 0)) none) (cond (Nat.beq pc 68) (some (.putfield 42, 71, 9, 4, 361, 0)) none)) (cond (Nat.ble 65 pc) (cond (Nat.beq pc 65) (some (.invokespecial 39, 68, 7, 1, 234, 0)) none) (cond (Nat.beq pc 62) (some (.getfield 26, 65, 9, 2, 359, 0)) none))) (cond (Nat.ble 58 pc) (cond (Nat.ble 61 pc) (cond (Nat.beq pc 61) (some (.aload_n 0, 62, 0, 0, 0, 0)) none) (cond (Nat.beq pc 58) (some (.getfield 19, 61, 9, 1, 358, 0)) none)) (cond (Nat.beq pc 57) (some (.aload_n 0, 58, 0, 0, 0, 0)) none))))) (cond (Nat.ble 27 pc) (cond (Nat.ble 42 pc) (cond (Nat.ble 49 pc) (cond (Nat.ble 53 pc) (cond (Nat.ble 54 pc) (cond (Nat.beq pc 54) (some (.getfield 12, 57, 9, 0, 357, 0)) none) (cond (Nat.beq pc 53) (some (.aload_n 0, 54, 0, 0, 0, 0)) none)) (cond (Nat.ble 52 pc) (cond (Nat.beq pc 52) (some (.dup, 53, 0, 0, 0, 0)) none) (cond (Nat.beq pc 49) (some (.new 37, 52, 5, 0, 232, 0)) none))) (cond (Nat.ble 45 pc) (cond (Nat.ble 48 pc) (cond (Nat.beq pc 48) (some (.aload_n 0, 49, 0, 0, 0, 0)) none) (cond (Nat.beq pc 45) (some (.putfield 33, 48, 9, 3, 360, 0)) none)) (cond (Nat.beq pc 42) (some (.invokespecial 32, 45, 6, 1, 209, 0)) none))) (cond (Nat.ble 34 pc) (cond (Nat.ble 38 pc) (cond (Nat.ble 41 pc) (cond (Nat.beq pc 41) (some (.dup, 42, 0, 0, 0, 0)) none) (cond (Nat.beq pc 38) (some (.new 30, 41, 6, 0, 207, 0)) none)) (cond (Nat.ble 37 pc) (cond (Nat.beq pc 37) (some (.aload_n 0, 38, 0, 0, 0, 0)) none) (cond (Nat.beq pc 34) (some (.putfield 26, 37, 9, 2, 359, 0)) none))) (cond (Nat.ble 30 pc) (cond (Nat.ble 31 pc) (cond (Nat.beq pc 31) (some (.invokespecial 25, 34, 5, 1, 192, 0)) none) (cond (Nat.beq pc 30) (some (.dup, 31, 0, 0, 0, 0)) none)) (cond (Nat.beq pc 27) (some (.new 23, 30, 2, 0, 190, 0)) none)))) (cond (Nat.ble 12 pc) (cond (Nat.ble 19 pc) (cond (Nat.ble 23 pc) (cond (Nat.ble 26 pc) (cond (Nat.beq pc 26) (some (.aload_n 0, 27, 0, 0, 0, 0)) none) (cond (Nat.beq pc 23) (some (.putfield 19, 26, 9, 1, 358, 0)) none)) (cond (Nat.ble 20 pc) (cond (Nat.beq pc 20) (some (.invokespecial 18, 23, 2, 1, 148, 0)) none) (cond (Nat.beq pc 19) (some (.dup, 20, 0, 0, 0, 0)) none))) (cond (Nat.ble 15 pc) (cond (Nat.ble 16 pc) (cond (Nat.beq pc 16) (some (.new 16, 19, 8, 0, 146, 0)) none) (cond (Nat.beq pc 15) (some (.aload_n 0, 16, 0, 0, 0, 0)) none)) (cond (Nat.beq pc 12) (some (.putfield 12, 15, 9, 0, 357, 0)) none))) (cond (Nat.ble 5 pc) (cond (Nat.ble 8 pc) (cond (Nat.ble 9 pc) (cond (Nat.beq pc 9) (some (.invokespecial 11, 12, 1, 1, 133, 0)) none) (cond (Nat.beq pc 8) (some (.dup, 9, 0, 0, 0, 0)) none)) (cond (Nat.beq pc 5) (some (.new 9, 8, 7, 0, 131, 0)) none)) (cond (Nat.ble 1 pc) (cond (Nat.ble 4 pc) (cond (Nat.beq pc 4) (some (.aload_n 0, 5, 0, 0, 0, 0)) none) (cond (Nat.beq pc 1) (some (.invokespecial 3, 4, 999, 2, 128, 0)) none)) (cond (Nat.beq pc 0) (some (.aload_n 0, 1, 0, 0, 0, 0)) none))))))
def rc_1 (pc : Nat) : Option RI := cond (Nat.ble 19 pc) none (cond (Nat.ble 10 pc) (cond (Nat.ble 14 pc) (cond (Nat.ble 15 pc) (cond (Nat.ble 18 pc) (cond (Nat.beq pc 18) (some (.return_, 19, 0, 0, 0, 0)) none) (cond (Nat.beq pc 15) (some (.putfield 15, 18, 7, 1, 138, 0)) none)) (cond (Nat.beq pc 14) (some (.iconst 0, 15, 0, 0, 0, 0)) none)) (cond (Nat.ble 13 pc) (cond (Nat.beq pc 13) (some (.aload_n 0, 14, 0, 0, 0, 0)) none) (cond (Nat.beq pc 10) (some (.putfield 9, 13, 7, 0, 137, 0)) none))) (cond (Nat.ble 4 pc) (cond (Nat.ble 5 pc) (cond (Nat.ble 8 pc) (cond (Nat.beq pc 8) (some (.newarray .byte, 10, 0, 0, 0, 0)) none) (cond (Nat.beq pc 5) (some (.sipush 400, 8, 0, 0, 0, 0)) none)) (cond (Nat.beq pc 4) (some (.aload_n 0, 5, 0, 0, 0, 0)) none)) (cond (Nat.ble 1 pc) (cond (Nat.beq pc 1) (some (.invokespecial 3, 4, 999, 2, 136, 0)) none) (cond (Nat.beq pc 0) (some (.aload_n 0, 1, 0, 0, 0, 0)) none))))
def rc_2 (pc : Nat) : Option RI := cond (Nat.ble 34 pc) none (cond (Nat.ble 17 pc) (cond (Nat.ble 25 pc) (cond (Nat.ble 28 pc) (cond (Nat.ble 30 pc) (cond (Nat.ble 33 pc) (cond (Nat.beq pc 33) (some (.return_, 34, 0, 0, 0, 0)) none) (cond (Nat.beq pc 30) (some (.putfield 24, 33, 8, 2, 182, 0)) none)) (cond (Nat.beq pc 28) (some (.newarray .int, 30, 0, 0, 0, 0)) none)) (cond (Nat.ble 26 pc) (cond (Nat.beq pc 26) (some (.bipush 30, 28, 0, 0, 0, 0)) none) (cond (Nat.beq pc 25) (some (.aload_n 0, 26, 0, 0, 0, 0)) none))) (cond (Nat.ble 20 pc) (cond (Nat.ble 22 pc) (cond (Nat.beq pc 22) (some (.putfield 20, 25, 8, 1, 181, 0)) none) (cond (Nat.beq pc 20) (some (.newarray .int, 22, 0, 0, 0, 0)) none)) (cond (Nat.ble 18 pc) (cond (Nat.beq pc 18) (some (.bipush 30, 20, 0, 0, 0, 0)) none) (cond (Nat.beq pc 17) (some (.aload_n 0, 18, 0, 0, 0, 0)) none)))) (cond (Nat.ble 8 pc) (cond (Nat.ble 11 pc) (cond (Nat.ble 14 pc) (cond (Nat.beq pc 14) (some (.putfield 14, 17, 8, 0, 178, 0)) none) (cond (Nat.beq pc 11) (some (.invokespecial 11, 14, 3, 1, 154, 0)) none)) (cond (Nat.ble 9 pc) (cond (Nat.beq pc 9) (some (.bipush 30, 11, 0, 0, 0, 0)) none) (cond (Nat.beq pc 8) (some (.dup, 9, 0, 0, 0, 0)) none))) (cond (Nat.ble 4 pc) (cond (Nat.ble 5 pc) (cond (Nat.beq pc 5) (some (.new 9, 8, 3, 0, 152, 0)) none) (cond (Nat.beq pc 4) (some (.aload_n 0, 5, 0, 0, 0, 0)) none)) (cond (Nat.ble 1 pc) (cond (Nat.beq pc 1) (some (.invokespecial 3, 4, 999, 2, 151, 0)) none) (cond (Nat.beq pc 0) (some (.aload_n 0, 1, 0, 0, 0, 0)) none)))))
def rc_3 (pc : Nat) : Option RI := cond (Nat.ble 37 pc) none (cond (Nat.ble 18 pc) (cond (Nat.ble 27 pc) (cond (Nat.ble 30 pc) (cond (Nat.ble 33 pc) (cond (Nat.ble 36 pc) (cond (Nat.beq pc 36) (some (.return_, 37, 0, 0, 0, 0)) none) (cond (Nat.beq pc 33) (some (.putfield 29, 36, 3, 2, 163, 0)) none)) (cond (Nat.beq pc 30) (some (.invokestatic 23, 33, 4, 0, 158, 0)) none)) (cond (Nat.ble 28 pc) (cond (Nat.beq pc 28) (some (.bipush 30, 30, 0, 0, 0, 0)) none) (cond (Nat.beq pc 27) (some (.iload_n 1, 28, 0, 0, 0, 0)) none))) (cond (Nat.ble 22 pc) (cond (Nat.ble 23 pc) (cond (Nat.ble 26 pc) (cond (Nat.beq pc 26) (some (.aload_n 0, 27, 0, 0, 0, 0)) none) (cond (Nat.beq pc 23) (some (.putfield 19, 26, 3, 3, 164, 0)) none)) (cond (Nat.beq pc 22) (some (.iconst 0, 23, 0, 0, 0, 0)) none)) (cond (Nat.ble 21 pc) (cond (Nat.beq pc 21) (some (.aload_n 0, 22, 0, 0, 0, 0)) none) (cond (Nat.beq pc 18) (some (.putfield 15, 21, 3, 1, 162, 0)) none)))) (cond (Nat.ble 8 pc) (cond (Nat.ble 13 pc) (cond (Nat.ble 14 pc) (cond (Nat.ble 16 pc) (cond (Nat.beq pc 16) (some (.newarray .int, 18, 0, 0, 0, 0)) none) (cond (Nat.beq pc 14) (some (.bipush 30, 16, 0, 0, 0, 0)) none)) (cond (Nat.beq pc 13) (some (.aload_n 0, 14, 0, 0, 0, 0)) none)) (cond (Nat.ble 10 pc) (cond (Nat.beq pc 10) (some (.putfield 9, 13, 3, 0, 161, 0)) none) (cond (Nat.beq pc 8) (some (.newarray .byte, 10, 0, 0, 0, 0)) none))) (cond (Nat.ble 4 pc) (cond (Nat.ble 5 pc) (cond (Nat.beq pc 5) (some (.sipush 300, 8, 0, 0, 0, 0)) none) (cond (Nat.beq pc 4) (some (.aload_n 0, 5, 0, 0, 0, 0)) none)) (cond (Nat.ble 1 pc) (cond (Nat.beq pc 1) (some (.invokespecial 3, 4, 999, 2, 157, 0)) none) (cond (Nat.beq pc 0) (some (.aload_n 0, 1, 0, 0, 0, 0)) none)))))
def rc_4 (pc : Nat) : Option RI := cond (Nat.ble 11 pc) none (cond (Nat.ble 5 pc) (cond (Nat.ble 9 pc) (cond (Nat.ble 10 pc) (cond (Nat.beq pc 10) (some (.ireturn, 11, 0, 0, 0, 0)) none) (cond (Nat.beq pc 9) (some (.iload_n 1, 10, 0, 0, 0, 0)) none)) (cond (Nat.ble 6 pc) (cond (Nat.beq pc 6) (some (.goto 4, 9, 10, 0, 0, 0)) none) (cond (Nat.beq pc 5) (some (.iload_n 0, 6, 0, 0, 0, 0)) none))) (cond (Nat.ble 1 pc) (cond (Nat.ble 2 pc) (cond (Nat.beq pc 2) (some (.if_icmp .gt 7, 5, 9, 0, 0, 0)) none) (cond (Nat.beq pc 1) (some (.iload_n 1, 2, 0, 0, 0, 0)) none)) (cond (Nat.beq pc 0) (some (.iload_n 0, 1, 0, 0, 0, 0)) none)))
def rc_5 (pc : Nat) : Option RI := cond (Nat.ble 26 pc) none (cond (Nat.ble 11 pc) (cond (Nat.ble 18 pc) (cond (Nat.ble 22 pc) (cond (Nat.ble 25 pc) (cond (Nat.beq pc 25) (some (.return_, 26, 0, 0, 0, 0)) none) (cond (Nat.beq pc 22) (some (.putfield 20, 25, 2, 1, 201, 0)) none)) (cond (Nat.ble 20 pc) (cond (Nat.beq pc 20) (some (.newarray .int, 22, 0, 0, 0, 0)) none) (cond (Nat.beq pc 18) (some (.bipush 16, 20, 0, 0, 0, 0)) none))) (cond (Nat.ble 14 pc) (cond (Nat.ble 17 pc) (cond (Nat.beq pc 17) (some (.aload_n 0, 18, 0, 0, 0, 0)) none) (cond (Nat.beq pc 14) (some (.putfield 14, 17, 2, 0, 198, 0)) none)) (cond (Nat.beq pc 11) (some (.invokespecial 11, 14, 3, 1, 197, 0)) none))) (cond (Nat.ble 5 pc) (cond (Nat.ble 8 pc) (cond (Nat.ble 9 pc) (cond (Nat.beq pc 9) (some (.bipush 16, 11, 0, 0, 0, 0)) none) (cond (Nat.beq pc 8) (some (.dup, 9, 0, 0, 0, 0)) none)) (cond (Nat.beq pc 5) (some (.new 9, 8, 3, 0, 196, 0)) none)) (cond (Nat.ble 1 pc) (cond (Nat.ble 4 pc) (cond (Nat.beq pc 4) (some (.aload_n 0, 5, 0, 0, 0, 0)) none) (cond (Nat.beq pc 1) (some (.invokespecial 3, 4, 999, 2, 195, 0)) none)) (cond (Nat.beq pc 0) (some (.aload_n 0, 1, 0, 0, 0, 0)) none))))
def rc_6 (pc : Nat) : Option RI := cond (Nat.ble 39 pc) none (cond (Nat.ble 19 pc) (cond (Nat.ble 30 pc) (cond (Nat.ble 34 pc) (cond (Nat.ble 35 pc) (cond (Nat.ble 38 pc) (cond (Nat.beq pc 38) (some (.return_, 39, 0, 0, 0, 0)) none) (cond (Nat.beq pc 35) (some (.putfield 23, 38, 6, 3, 221, 0)) none)) (cond (Nat.beq pc 34) (some (.iconst 0, 35, 0, 0, 0, 0)) none)) (cond (Nat.ble 33 pc) (cond (Nat.beq pc 33) (some (.aload_n 0, 34, 0, 0, 0, 0)) none) (cond (Nat.beq pc 30) (some (.putfield 19, 33, 6, 2, 217, 0)) none))) (cond (Nat.ble 25 pc) (cond (Nat.ble 28 pc) (cond (Nat.ble 29 pc) (cond (Nat.beq pc 29) (some (.iconst 0, 30, 0, 0, 0, 0)) none) (cond (Nat.beq pc 28) (some (.aload_n 0, 29, 0, 0, 0, 0)) none)) (cond (Nat.beq pc 25) (some (.putfield 16, 28, 6, 1, 216, 0)) none)) (cond (Nat.ble 21 pc) (cond (Nat.beq pc 21) (some (.multianewarray 9 2, 25, 0, 0, 213, 0)) none) (cond (Nat.beq pc 19) (some (.bipush 20, 21, 0, 0, 0, 0)) none)))) (cond (Nat.ble 7 pc) (cond (Nat.ble 14 pc) (cond (Nat.ble 17 pc) (cond (Nat.ble 18 pc) (cond (Nat.beq pc 18) (some (.iconst 4, 19, 0, 0, 0, 0)) none) (cond (Nat.beq pc 17) (some (.aload_n 0, 18, 0, 0, 0, 0)) none)) (cond (Nat.beq pc 14) (some (.putfield 11, 17, 6, 0, 215, 0)) none)) (cond (Nat.ble 10 pc) (cond (Nat.beq pc 10) (some (.multianewarray 9 2, 14, 0, 0, 213, 0)) none) (cond (Nat.beq pc 7) (some (.sipush 150, 10, 0, 0, 0, 0)) none))) (cond (Nat.ble 4 pc) (cond (Nat.ble 5 pc) (cond (Nat.beq pc 5) (some (.bipush 8, 7, 0, 0, 0, 0)) none) (cond (Nat.beq pc 4) (some (.aload_n 0, 5, 0, 0, 0, 0)) none)) (cond (Nat.ble 1 pc) (cond (Nat.beq pc 1) (some (.invokespecial 3, 4, 999, 2, 212, 0)) none) (cond (Nat.beq pc 0) (some (.aload_n 0, 1, 0, 0, 0, 0)) none)))))
def rc_7 (pc : Nat) : Option RI := cond (Nat.ble 68 pc) none (cond (Nat.ble 36 pc) (cond (Nat.ble 52 pc) (cond (Nat.ble 59 pc) (cond (Nat.ble 63 pc) (cond (Nat.ble 64 pc) (cond (Nat.ble 67 pc) (cond (Nat.beq pc 67) (some (.return_, 68, 0, 0, 0, 0)) none) (cond (Nat.beq pc 64) (some (.putfield 46, 67, 5, 2, 241, 0)) none)) (cond (Nat.beq pc 63) (some (.aload_n 3, 64, 0, 0, 0, 0)) none)) (cond (Nat.ble 62 pc) (cond (Nat.beq pc 62) (some (.aload_n 0, 63, 0, 0, 0, 0)) none) (cond (Nat.beq pc 59) (some (.putfield 42, 62, 5, 1, 240, 0)) none))) (cond (Nat.ble 54 pc) (cond (Nat.ble 57 pc) (cond (Nat.ble 58 pc) (cond (Nat.beq pc 58) (some (.aload_n 2, 59, 0, 0, 0, 0)) none) (cond (Nat.beq pc 57) (some (.aload_n 0, 58, 0, 0, 0, 0)) none)) (cond (Nat.beq pc 54) (some (.putfield 38, 57, 5, 0, 239, 0)) none)) (cond (Nat.ble 53 pc) (cond (Nat.beq pc 53) (some (.aload_n 1, 54, 0, 0, 0, 0)) none) (cond (Nat.beq pc 52) (some (.aload_n 0, 53, 0, 0, 0, 0)) none)))) (cond (Nat.ble 42 pc) (cond (Nat.ble 47 pc) (cond (Nat.ble 48 pc) (cond (Nat.ble 49 pc) (cond (Nat.beq pc 49) (some (.putfield 35, 52, 5, 10, 253, 0)) none) (cond (Nat.beq pc 48) (some (.iconst 0, 49, 0, 0, 0, 0)) none)) (cond (Nat.beq pc 47) (some (.aload_n 0, 48, 0, 0, 0, 0)) none)) (cond (Nat.ble 44 pc) (cond (Nat.beq pc 44) (some (.putfield 32, 47, 5, 9, 252, 0)) none) (cond (Nat.beq pc 42) (some (.bipush 6, 44, 0, 0, 0, 0)) none))) (cond (Nat.ble 38 pc) (cond (Nat.ble 41 pc) (cond (Nat.beq pc 41) (some (.aload_n 0, 42, 0, 0, 0, 0)) none) (cond (Nat.beq pc 38) (some (.putfield 29, 41, 5, 8, 251, 0)) none)) (cond (Nat.ble 37 pc) (cond (Nat.beq pc 37) (some (.iconst 0, 38, 0, 0, 0, 0)) none) (cond (Nat.beq pc 36) (some (.aload_n 0, 37, 0, 0, 0, 0)) none))))) (cond (Nat.ble 18 pc) (cond (Nat.ble 27 pc) (cond (Nat.ble 31 pc) (cond (Nat.ble 32 pc) (cond (Nat.ble 33 pc) (cond (Nat.beq pc 33) (some (.putfield 26, 36, 5, 7, 250, 0)) none) (cond (Nat.beq pc 32) (some (.iconst 0, 33, 0, 0, 0, 0)) none)) (cond (Nat.beq pc 31) (some (.aload_n 0, 32, 0, 0, 0, 0)) none)) (cond (Nat.ble 28 pc) (cond (Nat.beq pc 28) (some (.putfield 23, 31, 5, 6, 248, 0)) none) (cond (Nat.beq pc 27) (some (.iconst (-1), 28, 0, 0, 0, 0)) none))) (cond (Nat.ble 22 pc) (cond (Nat.ble 23 pc) (cond (Nat.ble 26 pc) (cond (Nat.beq pc 26) (some (.aload_n 0, 27, 0, 0, 0, 0)) none) (cond (Nat.beq pc 23) (some (.putfield 20, 26, 5, 5, 246, 0)) none)) (cond (Nat.beq pc 22) (some (.iconst 0, 23, 0, 0, 0, 0)) none)) (cond (Nat.ble 21 pc) (cond (Nat.beq pc 21) (some (.aload_n 0, 22, 0, 0, 0, 0)) none) (cond (Nat.beq pc 18) (some (.putfield 16, 21, 5, 4, 244, 0)) none)))) (cond (Nat.ble 7 pc) (cond (Nat.ble 13 pc) (cond (Nat.ble 16 pc) (cond (Nat.ble 17 pc) (cond (Nat.beq pc 17) (some (.iconst 0, 18, 0, 0, 0, 0)) none) (cond (Nat.beq pc 16) (some (.aload_n 0, 17, 0, 0, 0, 0)) none)) (cond (Nat.beq pc 13) (some (.putfield 11, 16, 5, 3, 242, 0)) none)) (cond (Nat.ble 9 pc) (cond (Nat.beq pc 9) (some (.multianewarray 9 2, 13, 0, 0, 238, 0)) none) (cond (Nat.beq pc 7) (some (.bipush 20, 9, 0, 0, 0, 0)) none))) (cond (Nat.ble 4 pc) (cond (Nat.ble 5 pc) (cond (Nat.beq pc 5) (some (.bipush 7, 7, 0, 0, 0, 0)) none) (cond (Nat.beq pc 4) (some (.aload_n 0, 5, 0, 0, 0, 0)) none)) (cond (Nat.ble 1 pc) (cond (Nat.beq pc 1) (some (.invokespecial 3, 4, 999, 2, 237, 0)) none) (cond (Nat.beq pc 0) (some (.aload_n 0, 1, 0, 0, 0, 0)) none))))))
def rc_8 (pc : Nat) : Option RI := cond (Nat.ble 39 pc) none (cond (Nat.ble 20 pc) (cond (Nat.ble 29 pc) (cond (Nat.ble 34 pc) (cond (Nat.ble 35 pc) (cond (Nat.ble 38 pc) (cond (Nat.beq pc 38) (some (.return_, 39, 0, 0, 0, 0)) none) (cond (Nat.beq pc 35) (some (.putfield 25, 38, 0, 4, 287, 0)) none)) (cond (Nat.beq pc 34) (some (.iconst 0, 35, 0, 0, 0, 0)) none)) (cond (Nat.ble 30 pc) (cond (Nat.ble 33 pc) (cond (Nat.beq pc 33) (some (.aload_n 0, 34, 0, 0, 0, 0)) none) (cond (Nat.beq pc 30) (some (.putfield 21, 33, 0, 3, 286, 0)) none)) (cond (Nat.beq pc 29) (some (.iconst 0, 30, 0, 0, 0, 0)) none))) (cond (Nat.ble 23 pc) (cond (Nat.ble 25 pc) (cond (Nat.ble 28 pc) (cond (Nat.beq pc 28) (some (.aload_n 0, 29, 0, 0, 0, 0)) none) (cond (Nat.beq pc 25) (some (.putfield 18, 28, 0, 2, 285, 0)) none)) (cond (Nat.beq pc 23) (some (.newarray .int, 25, 0, 0, 0, 0)) none)) (cond (Nat.ble 21 pc) (cond (Nat.beq pc 21) (some (.bipush 12, 23, 0, 0, 0, 0)) none) (cond (Nat.beq pc 20) (some (.aload_n 0, 21, 0, 0, 0, 0)) none)))) (cond (Nat.ble 9 pc) (cond (Nat.ble 13 pc) (cond (Nat.ble 15 pc) (cond (Nat.ble 17 pc) (cond (Nat.beq pc 17) (some (.putfield 15, 20, 0, 1, 284, 0)) none) (cond (Nat.beq pc 15) (some (.newarray .int, 17, 0, 0, 0, 0)) none)) (cond (Nat.beq pc 13) (some (.bipush 12, 15, 0, 0, 0, 0)) none)) (cond (Nat.ble 12 pc) (cond (Nat.beq pc 12) (some (.aload_n 0, 13, 0, 0, 0, 0)) none) (cond (Nat.beq pc 9) (some (.putfield 9, 12, 0, 0, 283, 0)) none))) (cond (Nat.ble 4 pc) (cond (Nat.ble 5 pc) (cond (Nat.ble 7 pc) (cond (Nat.beq pc 7) (some (.newarray .int, 9, 0, 0, 0, 0)) none) (cond (Nat.beq pc 5) (some (.bipush 12, 7, 0, 0, 0, 0)) none)) (cond (Nat.beq pc 4) (some (.aload_n 0, 5, 0, 0, 0, 0)) none)) (cond (Nat.ble 1 pc) (cond (Nat.beq pc 1) (some (.invokespecial 3, 4, 999, 2, 282, 0)) none) (cond (Nat.beq pc 0) (some (.aload_n 0, 1, 0, 0, 0, 0)) none)))))
def rc_9 (pc : Nat) : Option RI := cond (Nat.ble 81 pc) none (cond (Nat.ble 44 pc) (cond (Nat.ble 62 pc) (cond (Nat.ble 71 pc) (cond (Nat.ble 76 pc) (cond (Nat.ble 77 pc) (cond (Nat.ble 80 pc) (cond (Nat.beq pc 80) (some (.return_, 81, 0, 0, 0, 0)) none) (cond (Nat.beq pc 77) (some (.putfield 42, 80, 1, 9, 315, 0)) none)) (cond (Nat.beq pc 76) (some (.iconst (-1), 77, 0, 0, 0, 0)) none)) (cond (Nat.ble 72 pc) (cond (Nat.ble 75 pc) (cond (Nat.beq pc 75) (some (.aload_n 0, 76, 0, 0, 0, 0)) none) (cond (Nat.beq pc 72) (some (.putfield 39, 75, 1, 8, 314, 0)) none)) (cond (Nat.beq pc 71) (some (.iconst 0, 72, 0, 0, 0, 0)) none))) (cond (Nat.ble 66 pc) (cond (Nat.ble 67 pc) (cond (Nat.ble 70 pc) (cond (Nat.beq pc 70) (some (.aload_n 0, 71, 0, 0, 0, 0)) none) (cond (Nat.beq pc 67) (some (.putfield 36, 70, 1, 7, 313, 0)) none)) (cond (Nat.beq pc 66) (some (.iconst 0, 67, 0, 0, 0, 0)) none)) (cond (Nat.ble 65 pc) (cond (Nat.beq pc 65) (some (.aload_n 0, 66, 0, 0, 0, 0)) none) (cond (Nat.beq pc 62) (some (.putfield 32, 65, 1, 6, 312, 0)) none)))) (cond (Nat.ble 53 pc) (cond (Nat.ble 57 pc) (cond (Nat.ble 60 pc) (cond (Nat.ble 61 pc) (cond (Nat.beq pc 61) (some (.iconst 0, 62, 0, 0, 0, 0)) none) (cond (Nat.beq pc 60) (some (.aload_n 0, 61, 0, 0, 0, 0)) none)) (cond (Nat.beq pc 57) (some (.putfield 29, 60, 1, 5, 311, 0)) none)) (cond (Nat.ble 55 pc) (cond (Nat.beq pc 55) (some (.newarray .int, 57, 0, 0, 0, 0)) none) (cond (Nat.beq pc 53) (some (.bipush 6, 55, 0, 0, 0, 0)) none))) (cond (Nat.ble 47 pc) (cond (Nat.ble 49 pc) (cond (Nat.ble 52 pc) (cond (Nat.beq pc 52) (some (.aload_n 0, 53, 0, 0, 0, 0)) none) (cond (Nat.beq pc 49) (some (.putfield 26, 52, 1, 4, 310, 0)) none)) (cond (Nat.beq pc 47) (some (.newarray .int, 49, 0, 0, 0, 0)) none)) (cond (Nat.ble 45 pc) (cond (Nat.beq pc 45) (some (.bipush 6, 47, 0, 0, 0, 0)) none) (cond (Nat.beq pc 44) (some (.aload_n 0, 45, 0, 0, 0, 0)) none))))) (cond (Nat.ble 20 pc) (cond (Nat.ble 32 pc) (cond (Nat.ble 35 pc) (cond (Nat.ble 37 pc) (cond (Nat.ble 41 pc) (cond (Nat.beq pc 41) (some (.putfield 23, 44, 1, 3, 309, 0)) none) (cond (Nat.beq pc 37) (some (.multianewarray 18 2, 41, 0, 0, 305, 0)) none)) (cond (Nat.beq pc 35) (some (.bipush 64, 37, 0, 0, 0, 0)) none)) (cond (Nat.ble 33 pc) (cond (Nat.beq pc 33) (some (.bipush 7, 35, 0, 0, 0, 0)) none) (cond (Nat.beq pc 32) (some (.aload_n 0, 33, 0, 0, 0, 0)) none))) (cond (Nat.ble 23 pc) (cond (Nat.ble 25 pc) (cond (Nat.ble 29 pc) (cond (Nat.beq pc 29) (some (.putfield 20, 32, 1, 2, 308, 0)) none) (cond (Nat.beq pc 25) (some (.multianewarray 18 2, 29, 0, 0, 305, 0)) none)) (cond (Nat.beq pc 23) (some (.bipush 6, 25, 0, 0, 0, 0)) none)) (cond (Nat.ble 21 pc) (cond (Nat.beq pc 21) (some (.bipush 6, 23, 0, 0, 0, 0)) none) (cond (Nat.beq pc 20) (some (.aload_n 0, 21, 0, 0, 0, 0)) none)))) (cond (Nat.ble 9 pc) (cond (Nat.ble 13 pc) (cond (Nat.ble 15 pc) (cond (Nat.ble 17 pc) (cond (Nat.beq pc 17) (some (.putfield 15, 20, 1, 1, 307, 0)) none) (cond (Nat.beq pc 15) (some (.newarray .int, 17, 0, 0, 0, 0)) none)) (cond (Nat.beq pc 13) (some (.bipush 6, 15, 0, 0, 0, 0)) none)) (cond (Nat.ble 12 pc) (cond (Nat.beq pc 12) (some (.aload_n 0, 13, 0, 0, 0, 0)) none) (cond (Nat.beq pc 9) (some (.putfield 9, 12, 1, 0, 306, 0)) none))) (cond (Nat.ble 4 pc) (cond (Nat.ble 5 pc) (cond (Nat.ble 7 pc) (cond (Nat.beq pc 7) (some (.newarray .int, 9, 0, 0, 0, 0)) none) (cond (Nat.beq pc 5) (some (.bipush 6, 7, 0, 0, 0, 0)) none)) (cond (Nat.beq pc 4) (some (.aload_n 0, 5, 0, 0, 0, 0)) none)) (cond (Nat.ble 1 pc) (cond (Nat.beq pc 1) (some (.invokespecial 3, 4, 999, 2, 304, 0)) none) (cond (Nat.beq pc 0) (some (.aload_n 0, 1, 0, 0, 0, 0)) none))))))
def rc_10 (pc : Nat) : Option RI := cond (Nat.ble 26 pc) none (cond (Nat.ble 11 pc) (cond (Nat.ble 19 pc) (cond (Nat.ble 22 pc) (cond (Nat.ble 25 pc) (cond (Nat.beq pc 25) (some (.return_, 26, 0, 0, 0, 0)) none) (cond (Nat.beq pc 22) (some (.putfield 21, 25, 4, 3, 347, 0)) none)) (cond (Nat.ble 20 pc) (cond (Nat.beq pc 20) (some (.bipush 100, 22, 0, 0, 0, 0)) none) (cond (Nat.beq pc 19) (some (.aload_n 0, 20, 0, 0, 0, 0)) none))) (cond (Nat.ble 15 pc) (cond (Nat.ble 16 pc) (cond (Nat.beq pc 16) (some (.putfield 18, 19, 4, 2, 346, 0)) none) (cond (Nat.beq pc 15) (some (.iconst 0, 16, 0, 0, 0, 0)) none)) (cond (Nat.ble 14 pc) (cond (Nat.beq pc 14) (some (.aload_n 0, 15, 0, 0, 0, 0)) none) (cond (Nat.beq pc 11) (some (.putfield 15, 14, 4, 1, 345, 0)) none)))) (cond (Nat.ble 5 pc) (cond (Nat.ble 9 pc) (cond (Nat.ble 10 pc) (cond (Nat.beq pc 10) (some (.iconst 0, 11, 0, 0, 0, 0)) none) (cond (Nat.beq pc 9) (some (.aload_n 0, 10, 0, 0, 0, 0)) none)) (cond (Nat.ble 6 pc) (cond (Nat.beq pc 6) (some (.putfield 9, 9, 4, 0, 344, 0)) none) (cond (Nat.beq pc 5) (some (.iconst 0, 6, 0, 0, 0, 0)) none))) (cond (Nat.ble 1 pc) (cond (Nat.ble 4 pc) (cond (Nat.beq pc 4) (some (.aload_n 0, 5, 0, 0, 0, 0)) none) (cond (Nat.beq pc 1) (some (.invokespecial 3, 4, 999, 2, 343, 0)) none)) (cond (Nat.beq pc 0) (some (.aload_n 0, 1, 0, 0, 0, 0)) none))))
def rc_11 (pc : Nat) : Option RI := cond (Nat.ble 36 pc) none (cond (Nat.ble 17 pc) (cond (Nat.ble 26 pc) (cond (Nat.ble 31 pc) (cond (Nat.ble 32 pc) (cond (Nat.ble 35 pc) (cond (Nat.beq pc 35) (some (.ireturn, 36, 0, 0, 0, 0)) none) (cond (Nat.beq pc 32) (some (.invokevirtual 78, 35, 13, 0, 396, 0)) none)) (cond (Nat.beq pc 31) (some (.isub, 32, 0, 0, 0, 0)) none)) (cond (Nat.ble 27 pc) (cond (Nat.ble 30 pc) (cond (Nat.beq pc 30) (some (.iconst 1, 31, 0, 0, 0, 0)) none) (cond (Nat.beq pc 27) (some (.getfield 67, 30, 9, 8, 365, 0)) none)) (cond (Nat.beq pc 26) (some (.aload_n 0, 27, 0, 0, 0, 0)) none))) (cond (Nat.ble 21 pc) (cond (Nat.ble 22 pc) (cond (Nat.ble 25 pc) (cond (Nat.beq pc 25) (some (.aload_n 0, 26, 0, 0, 0, 0)) none) (cond (Nat.beq pc 22) (some (.putfield 67, 25, 9, 8, 365, 0)) none)) (cond (Nat.beq pc 21) (some (.iadd, 22, 0, 0, 0, 0)) none)) (cond (Nat.ble 20 pc) (cond (Nat.beq pc 20) (some (.iconst 1, 21, 0, 0, 0, 0)) none) (cond (Nat.beq pc 17) (some (.getfield 67, 20, 9, 8, 365, 0)) none)))) (cond (Nat.ble 10 pc) (cond (Nat.ble 14 pc) (cond (Nat.ble 15 pc) (cond (Nat.ble 16 pc) (cond (Nat.beq pc 16) (some (.dup, 17, 0, 0, 0, 0)) none) (cond (Nat.beq pc 15) (some (.aload_n 0, 16, 0, 0, 0, 0)) none)) (cond (Nat.beq pc 14) (some (.ireturn, 15, 0, 0, 0, 0)) none)) (cond (Nat.ble 11 pc) (cond (Nat.beq pc 11) (some (.invokevirtual 74, 14, 12, 0, 392, 0)) none) (cond (Nat.beq pc 10) (some (.iconst 3, 11, 0, 0, 0, 0)) none))) (cond (Nat.ble 4 pc) (cond (Nat.ble 6 pc) (cond (Nat.ble 9 pc) (cond (Nat.beq pc 9) (some (.aload_n 0, 10, 0, 0, 0, 0)) none) (cond (Nat.beq pc 6) (some (.if_icmp .lt 9, 9, 15, 0, 0, 0)) none)) (cond (Nat.beq pc 4) (some (.bipush 8, 6, 0, 0, 0, 0)) none)) (cond (Nat.ble 1 pc) (cond (Nat.beq pc 1) (some (.getfield 67, 4, 9, 8, 365, 0)) none) (cond (Nat.beq pc 0) (some (.aload_n 0, 1, 0, 0, 0, 0)) none)))))
def rc_12 (pc : Nat) : Option RI := cond (Nat.ble 7 pc) none (cond (Nat.ble 2 pc) (cond (Nat.ble 5 pc) (cond (Nat.ble 6 pc) (cond (Nat.beq pc 6) (some (.ireturn, 7, 0, 0, 0, 0)) none) (cond (Nat.beq pc 5) (some (.iconst (-1), 6, 0, 0, 0, 0)) none)) (cond (Nat.beq pc 2) (some (.putfield 71, 5, 9, 9, 366, 0)) none)) (cond (Nat.ble 1 pc) (cond (Nat.beq pc 1) (some (.iload_n 1, 2, 0, 0, 0, 0)) none) (cond (Nat.beq pc 0) (some (.aload_n 0, 1, 0, 0, 0, 0)) none)))
def rc_13 (pc : Nat) : Option RI := cond (Nat.ble 7 pc) none (cond (Nat.ble 2 pc) (cond (Nat.ble 5 pc) (cond (Nat.ble 6 pc) (cond (Nat.beq pc 6) (some (.ireturn, 7, 0, 0, 0, 0)) none) (cond (Nat.beq pc 5) (some (.iload_n 1, 6, 0, 0, 0, 0)) none)) (cond (Nat.beq pc 2) (some (.putfield 71, 5, 9, 9, 366, 0)) none)) (cond (Nat.ble 1 pc) (cond (Nat.beq pc 1) (some (.iconst 0, 2, 0, 0, 0, 0)) none) (cond (Nat.beq pc 0) (some (.aload_n 0, 1, 0, 0, 0, 0)) none)))
def rc_14 (pc : Nat) : Option RI := cond (Nat.ble 64 pc) none (cond (Nat.ble 30 pc) (cond (Nat.ble 47 pc) (cond (Nat.ble 56 pc) (cond (Nat.ble 60 pc) (cond (Nat.ble 63 pc) (cond (Nat.beq pc 63) (some (.ireturn, 64, 0, 0, 0, 0)) none) (cond (Nat.beq pc 60) (some (.getfield 89, 63, 7, 1, 139, 0)) none)) (cond (Nat.ble 57 pc) (cond (Nat.beq pc 57) (some (.getfield 12, 60, 9, 0, 357, 0)) none) (cond (Nat.beq pc 56) (some (.aload_n 0, 57, 0, 0, 0, 0)) none))) (cond (Nat.ble 51 pc) (cond (Nat.ble 53 pc) (cond (Nat.beq pc 53) (some (.invokevirtual 85, 56, 16, 1, 408, 0)) none) (cond (Nat.beq pc 51) (some (.iload 5, 53, 0, 0, 0, 0)) none)) (cond (Nat.ble 48 pc) (cond (Nat.beq pc 48) (some (.getfield 12, 51, 9, 0, 357, 0)) none) (cond (Nat.beq pc 47) (some (.aload_n 0, 48, 0, 0, 0, 0)) none)))) (cond (Nat.ble 38 pc) (cond (Nat.ble 42 pc) (cond (Nat.ble 44 pc) (cond (Nat.beq pc 44) (some (.invokevirtual 85, 47, 16, 1, 408, 0)) none) (cond (Nat.beq pc 42) (some (.iload 4, 44, 0, 0, 0, 0)) none)) (cond (Nat.ble 39 pc) (cond (Nat.beq pc 39) (some (.getfield 12, 42, 9, 0, 357, 0)) none) (cond (Nat.beq pc 38) (some (.aload_n 0, 39, 0, 0, 0, 0)) none))) (cond (Nat.ble 34 pc) (cond (Nat.ble 35 pc) (cond (Nat.beq pc 35) (some (.invokevirtual 85, 38, 16, 1, 408, 0)) none) (cond (Nat.beq pc 34) (some (.iload_n 3, 35, 0, 0, 0, 0)) none)) (cond (Nat.ble 31 pc) (cond (Nat.beq pc 31) (some (.getfield 12, 34, 9, 0, 357, 0)) none) (cond (Nat.beq pc 30) (some (.aload_n 0, 31, 0, 0, 0, 0)) none))))) (cond (Nat.ble 14 pc) (cond (Nat.ble 22 pc) (cond (Nat.ble 26 pc) (cond (Nat.ble 27 pc) (cond (Nat.beq pc 27) (some (.invokevirtual 85, 30, 16, 1, 408, 0)) none) (cond (Nat.beq pc 26) (some (.iload_n 2, 27, 0, 0, 0, 0)) none)) (cond (Nat.ble 23 pc) (cond (Nat.beq pc 23) (some (.getfield 12, 26, 9, 0, 357, 0)) none) (cond (Nat.beq pc 22) (some (.aload_n 0, 23, 0, 0, 0, 0)) none))) (cond (Nat.ble 18 pc) (cond (Nat.ble 19 pc) (cond (Nat.beq pc 19) (some (.invokevirtual 85, 22, 16, 1, 408, 0)) none) (cond (Nat.beq pc 18) (some (.iload_n 1, 19, 0, 0, 0, 0)) none)) (cond (Nat.ble 15 pc) (cond (Nat.beq pc 15) (some (.getfield 12, 18, 9, 0, 357, 0)) none) (cond (Nat.beq pc 14) (some (.aload_n 0, 15, 0, 0, 0, 0)) none)))) (cond (Nat.ble 6 pc) (cond (Nat.ble 12 pc) (cond (Nat.ble 13 pc) (cond (Nat.beq pc 13) (some (.ireturn, 14, 0, 0, 0, 0)) none) (cond (Nat.beq pc 12) (some (.iconst (-1), 13, 0, 0, 0, 0)) none)) (cond (Nat.ble 9 pc) (cond (Nat.beq pc 9) (some (.ifCond .ne 5, 12, 14, 0, 0, 0)) none) (cond (Nat.beq pc 6) (some (.invokevirtual 81, 9, 15, 1, 404, 0)) none))) (cond (Nat.ble 1 pc) (cond (Nat.ble 4 pc) (cond (Nat.beq pc 4) (some (.bipush 20, 6, 0, 0, 0, 0)) none) (cond (Nat.beq pc 1) (some (.getfield 12, 4, 9, 0, 357, 0)) none)) (cond (Nat.beq pc 0) (some (.aload_n 0, 1, 0, 0, 0, 0)) none)))))
def rc_15 (pc : Nat) : Option RI := cond (Nat.ble 18 pc) none (cond (Nat.ble 9 pc) (cond (Nat.ble 13 pc) (cond (Nat.ble 16 pc) (cond (Nat.ble 17 pc) (cond (Nat.beq pc 17) (some (.ireturn, 18, 0, 0, 0, 0)) none) (cond (Nat.beq pc 16) (some (.iconst 0, 17, 0, 0, 0, 0)) none)) (cond (Nat.beq pc 13) (some (.goto 4, 16, 17, 0, 0, 0)) none)) (cond (Nat.ble 12 pc) (cond (Nat.beq pc 12) (some (.iconst 1, 13, 0, 0, 0, 0)) none) (cond (Nat.beq pc 9) (some (.if_icmp .gt 7, 12, 16, 0, 0, 0)) none))) (cond (Nat.ble 4 pc) (cond (Nat.ble 5 pc) (cond (Nat.ble 6 pc) (cond (Nat.beq pc 6) (some (.sipush 400, 9, 0, 0, 0, 0)) none) (cond (Nat.beq pc 5) (some (.iadd, 6, 0, 0, 0, 0)) none)) (cond (Nat.beq pc 4) (some (.iload_n 1, 5, 0, 0, 0, 0)) none)) (cond (Nat.ble 1 pc) (cond (Nat.beq pc 1) (some (.getfield 15, 4, 7, 1, 138, 0)) none) (cond (Nat.beq pc 0) (some (.aload_n 0, 1, 0, 0, 0, 0)) none))))
def rc_16 (pc : Nat) : Option RI := cond (Nat.ble 45 pc) none (cond (Nat.ble 24 pc) (cond (Nat.ble 30 pc) (cond (Nat.ble 35 pc) (cond (Nat.ble 41 pc) (cond (Nat.ble 44 pc) (cond (Nat.beq pc 44) (some (.return_, 45, 0, 0, 0, 0)) none) (cond (Nat.beq pc 41) (some (.goto (-38), 44, 3, 0, 0, 0)) none)) (cond (Nat.ble 38 pc) (cond (Nat.beq pc 38) (some (.iinc 2 (-8), 41, 0, 0, 0, 0)) none) (cond (Nat.beq pc 35) (some (.putfield 15, 38, 7, 1, 138, 0)) none))) (cond (Nat.ble 33 pc) (cond (Nat.ble 34 pc) (cond (Nat.beq pc 34) (some (.iadd, 35, 0, 0, 0, 0)) none) (cond (Nat.beq pc 33) (some (.iconst 1, 34, 0, 0, 0, 0)) none)) (cond (Nat.beq pc 30) (some (.getfield 15, 33, 7, 1, 138, 0)) none))) (cond (Nat.ble 27 pc) (cond (Nat.ble 28 pc) (cond (Nat.ble 29 pc) (cond (Nat.beq pc 29) (some (.dup, 30, 0, 0, 0, 0)) none) (cond (Nat.beq pc 28) (some (.aload_n 0, 29, 0, 0, 0, 0)) none)) (cond (Nat.beq pc 27) (some (.bastore, 28, 0, 0, 0, 0)) none)) (cond (Nat.ble 25 pc) (cond (Nat.ble 26 pc) (cond (Nat.beq pc 26) (some (.i2b, 27, 0, 0, 0, 0)) none) (cond (Nat.beq pc 25) (some (.ishr, 26, 0, 0, 0, 0)) none)) (cond (Nat.beq pc 24) (some (.iload_n 2, 25, 0, 0, 0, 0)) none)))) (cond (Nat.ble 9 pc) (cond (Nat.ble 16 pc) (cond (Nat.ble 20 pc) (cond (Nat.ble 23 pc) (cond (Nat.beq pc 23) (some (.iload_n 1, 24, 0, 0, 0, 0)) none) (cond (Nat.beq pc 20) (some (.getfield 15, 23, 7, 1, 138, 0)) none)) (cond (Nat.ble 19 pc) (cond (Nat.beq pc 19) (some (.aload_n 0, 20, 0, 0, 0, 0)) none) (cond (Nat.beq pc 16) (some (.getfield 9, 19, 7, 0, 137, 0)) none))) (cond (Nat.ble 12 pc) (cond (Nat.ble 15 pc) (cond (Nat.beq pc 15) (some (.aload_n 0, 16, 0, 0, 0, 0)) none) (cond (Nat.beq pc 12) (some (.ifCond .eq 26, 15, 38, 0, 0, 0)) none)) (cond (Nat.beq pc 9) (some (.invokevirtual 19, 12, 15, 0, 412, 0)) none))) (cond (Nat.ble 4 pc) (cond (Nat.ble 7 pc) (cond (Nat.ble 8 pc) (cond (Nat.beq pc 8) (some (.iconst 1, 9, 0, 0, 0, 0)) none) (cond (Nat.beq pc 7) (some (.aload_n 0, 8, 0, 0, 0, 0)) none)) (cond (Nat.beq pc 4) (some (.ifCond .lt 40, 7, 44, 0, 0, 0)) none)) (cond (Nat.ble 2 pc) (cond (Nat.ble 3 pc) (cond (Nat.beq pc 3) (some (.iload_n 2, 4, 0, 0, 0, 0)) none) (cond (Nat.beq pc 2) (some (.istore_n 2, 3, 0, 0, 0, 0)) none)) (cond (Nat.beq pc 0) (some (.bipush 24, 2, 0, 0, 0, 0)) none)))))
def rc_17 (pc : Nat) : Option RI := cond (Nat.ble 91 pc) none (cond (Nat.ble 45 pc) (cond (Nat.ble 68 pc) (cond (Nat.ble 78 pc) (cond (Nat.ble 85 pc) (cond (Nat.ble 87 pc) (cond (Nat.ble 90 pc) (cond (Nat.beq pc 90) (some (.ireturn, 91, 0, 0, 0, 0)) none) (cond (Nat.beq pc 87) (some (.invokevirtual 116, 90, 30, 0, 464, 0)) none)) (cond (Nat.beq pc 85) (some (.iload 4, 87, 0, 0, 0, 0)) none)) (cond (Nat.ble 79 pc) (cond (Nat.ble 82 pc) (cond (Nat.beq pc 82) (some (.getfield 102, 85, 8, 0, 180, 0)) none) (cond (Nat.beq pc 79) (some (.getfield 19, 82, 9, 1, 358, 0)) none)) (cond (Nat.beq pc 78) (some (.aload_n 0, 79, 0, 0, 0, 0)) none))) (cond (Nat.ble 73 pc) (cond (Nat.ble 74 pc) (cond (Nat.ble 77 pc) (cond (Nat.beq pc 77) (some (.aload_n 0, 78, 0, 0, 0, 0)) none) (cond (Nat.beq pc 74) (some (.invokevirtual 112, 77, 27, 1, 452, 0)) none)) (cond (Nat.beq pc 73) (some (.iload_n 2, 74, 0, 0, 0, 0)) none)) (cond (Nat.ble 71 pc) (cond (Nat.ble 72 pc) (cond (Nat.beq pc 72) (some (.iload_n 1, 73, 0, 0, 0, 0)) none) (cond (Nat.beq pc 71) (some (.iload_n 3, 72, 0, 0, 0, 0)) none)) (cond (Nat.beq pc 68) (some (.getfield 12, 71, 9, 0, 357, 0)) none)))) (cond (Nat.ble 56 pc) (cond (Nat.ble 63 pc) (cond (Nat.ble 64 pc) (cond (Nat.ble 67 pc) (cond (Nat.beq pc 67) (some (.aload_n 0, 68, 0, 0, 0, 0)) none) (cond (Nat.beq pc 64) (some (.getfield 19, 67, 9, 1, 358, 0)) none)) (cond (Nat.beq pc 63) (some (.aload_n 0, 64, 0, 0, 0, 0)) none)) (cond (Nat.ble 58 pc) (cond (Nat.ble 60 pc) (cond (Nat.beq pc 60) (some (.ifCond .ne 17, 63, 77, 0, 0, 0)) none) (cond (Nat.beq pc 58) (some (.iload 4, 60, 0, 0, 0, 0)) none)) (cond (Nat.beq pc 56) (some (.istore 4, 58, 0, 0, 0, 0)) none))) (cond (Nat.ble 49 pc) (cond (Nat.ble 52 pc) (cond (Nat.ble 53 pc) (cond (Nat.beq pc 53) (some (.invokevirtual 106, 56, 21, 1, 428, 0)) none) (cond (Nat.beq pc 52) (some (.iload_n 3, 53, 0, 0, 0, 0)) none)) (cond (Nat.beq pc 49) (some (.getfield 12, 52, 9, 0, 357, 0)) none)) (cond (Nat.ble 48 pc) (cond (Nat.beq pc 48) (some (.aload_n 0, 49, 0, 0, 0, 0)) none) (cond (Nat.beq pc 45) (some (.getfield 102, 48, 8, 0, 180, 0)) none))))) (cond (Nat.ble 19 pc) (cond (Nat.ble 35 pc) (cond (Nat.ble 40 pc) (cond (Nat.ble 41 pc) (cond (Nat.ble 42 pc) (cond (Nat.beq pc 42) (some (.getfield 19, 45, 9, 1, 358, 0)) none) (cond (Nat.beq pc 41) (some (.aload_n 0, 42, 0, 0, 0, 0)) none)) (cond (Nat.beq pc 40) (some (.ireturn, 41, 0, 0, 0, 0)) none)) (cond (Nat.ble 36 pc) (cond (Nat.ble 37 pc) (cond (Nat.beq pc 37) (some (.invokevirtual 74, 40, 12, 0, 392, 0)) none) (cond (Nat.beq pc 36) (some (.iconst 2, 37, 0, 0, 0, 0)) none)) (cond (Nat.beq pc 35) (some (.aload_n 0, 36, 0, 0, 0, 0)) none))) (cond (Nat.ble 26 pc) (cond (Nat.ble 29 pc) (cond (Nat.ble 32 pc) (cond (Nat.beq pc 32) (some (.ifCond .ne 9, 35, 41, 0, 0, 0)) none) (cond (Nat.beq pc 29) (some (.invokestatic 98, 32, 20, 0, 425, 0)) none)) (cond (Nat.beq pc 26) (some (.sipush 200, 29, 0, 0, 0, 0)) none)) (cond (Nat.ble 22 pc) (cond (Nat.ble 25 pc) (cond (Nat.beq pc 25) (some (.iload_n 2, 26, 0, 0, 0, 0)) none) (cond (Nat.beq pc 22) (some (.ifCond .eq 13, 25, 35, 0, 0, 0)) none)) (cond (Nat.beq pc 19) (some (.invokevirtual 95, 22, 19, 1, 421, 0)) none)))) (cond (Nat.ble 9 pc) (cond (Nat.ble 14 pc) (cond (Nat.ble 15 pc) (cond (Nat.ble 18 pc) (cond (Nat.beq pc 18) (some (.iload_n 3, 19, 0, 0, 0, 0)) none) (cond (Nat.beq pc 15) (some (.getfield 12, 18, 9, 0, 357, 0)) none)) (cond (Nat.beq pc 14) (some (.aload_n 0, 15, 0, 0, 0, 0)) none)) (cond (Nat.ble 10 pc) (cond (Nat.ble 13 pc) (cond (Nat.beq pc 13) (some (.ireturn, 14, 0, 0, 0, 0)) none) (cond (Nat.beq pc 10) (some (.invokevirtual 74, 13, 12, 0, 392, 0)) none)) (cond (Nat.beq pc 9) (some (.iconst 1, 10, 0, 0, 0, 0)) none))) (cond (Nat.ble 2 pc) (cond (Nat.ble 5 pc) (cond (Nat.ble 8 pc) (cond (Nat.beq pc 8) (some (.aload_n 0, 9, 0, 0, 0, 0)) none) (cond (Nat.beq pc 5) (some (.ifCond .ne 9, 8, 14, 0, 0, 0)) none)) (cond (Nat.beq pc 2) (some (.invokevirtual 92, 5, 18, 0, 417, 0)) none)) (cond (Nat.ble 1 pc) (cond (Nat.beq pc 1) (some (.iload_n 1, 2, 0, 0, 0, 0)) none) (cond (Nat.beq pc 0) (some (.aload_n 0, 1, 0, 0, 0, 0)) none))))))
def rc_18 (pc : Nat) : Option RI := cond (Nat.ble 18 pc) none (cond (Nat.ble 9 pc) (cond (Nat.ble 13 pc) (cond (Nat.ble 16 pc) (cond (Nat.ble 17 pc) (cond (Nat.beq pc 17) (some (.ireturn, 18, 0, 0, 0, 0)) none) (cond (Nat.beq pc 16) (some (.iconst 0, 17, 0, 0, 0, 0)) none)) (cond (Nat.beq pc 13) (some (.goto 4, 16, 17, 0, 0, 0)) none)) (cond (Nat.ble 12 pc) (cond (Nat.beq pc 12) (some (.iconst 1, 13, 0, 0, 0, 0)) none) (cond (Nat.beq pc 9) (some (.if_icmp .ge 7, 12, 16, 0, 0, 0)) none))) (cond (Nat.ble 4 pc) (cond (Nat.ble 5 pc) (cond (Nat.ble 6 pc) (cond (Nat.beq pc 6) (some (.getfield 67, 9, 9, 8, 365, 0)) none) (cond (Nat.beq pc 5) (some (.aload_n 0, 6, 0, 0, 0, 0)) none)) (cond (Nat.beq pc 4) (some (.iload_n 1, 5, 0, 0, 0, 0)) none)) (cond (Nat.ble 1 pc) (cond (Nat.beq pc 1) (some (.ifCond .lt 15, 4, 16, 0, 0, 0)) none) (cond (Nat.beq pc 0) (some (.iload_n 1, 1, 0, 0, 0, 0)) none))))
def rc_19 (pc : Nat) : Option RI := cond (Nat.ble 18 pc) none (cond (Nat.ble 9 pc) (cond (Nat.ble 13 pc) (cond (Nat.ble 16 pc) (cond (Nat.ble 17 pc) (cond (Nat.beq pc 17) (some (.ireturn, 18, 0, 0, 0, 0)) none) (cond (Nat.beq pc 16) (some (.iconst 0, 17, 0, 0, 0, 0)) none)) (cond (Nat.beq pc 13) (some (.goto 4, 16, 17, 0, 0, 0)) none)) (cond (Nat.ble 12 pc) (cond (Nat.beq pc 12) (some (.iconst 1, 13, 0, 0, 0, 0)) none) (cond (Nat.beq pc 9) (some (.if_icmp .gt 7, 12, 16, 0, 0, 0)) none))) (cond (Nat.ble 4 pc) (cond (Nat.ble 5 pc) (cond (Nat.ble 6 pc) (cond (Nat.beq pc 6) (some (.getfield 15, 9, 7, 1, 138, 0)) none) (cond (Nat.beq pc 5) (some (.aload_n 0, 6, 0, 0, 0, 0)) none)) (cond (Nat.beq pc 4) (some (.iload_n 1, 5, 0, 0, 0, 0)) none)) (cond (Nat.ble 1 pc) (cond (Nat.beq pc 1) (some (.ifCond .lt 15, 4, 16, 0, 0, 0)) none) (cond (Nat.beq pc 0) (some (.iload_n 1, 1, 0, 0, 0, 0)) none))))
def rc_20 (pc : Nat) : Option RI := cond (Nat.ble 15 pc) none (cond (Nat.ble 6 pc) (cond (Nat.ble 10 pc) (cond (Nat.ble 13 pc) (cond (Nat.ble 14 pc) (cond (Nat.beq pc 14) (some (.ireturn, 15, 0, 0, 0, 0)) none) (cond (Nat.beq pc 13) (some (.iconst 0, 14, 0, 0, 0, 0)) none)) (cond (Nat.beq pc 10) (some (.goto 4, 13, 14, 0, 0, 0)) none)) (cond (Nat.ble 9 pc) (cond (Nat.beq pc 9) (some (.iconst 1, 10, 0, 0, 0, 0)) none) (cond (Nat.beq pc 6) (some (.if_icmp .gt 7, 9, 13, 0, 0, 0)) none))) (cond (Nat.ble 4 pc) (cond (Nat.ble 5 pc) (cond (Nat.beq pc 5) (some (.iload_n 1, 6, 0, 0, 0, 0)) none) (cond (Nat.beq pc 4) (some (.iload_n 0, 5, 0, 0, 0, 0)) none)) (cond (Nat.ble 1 pc) (cond (Nat.beq pc 1) (some (.ifCond .lt 12, 4, 13, 0, 0, 0)) none) (cond (Nat.beq pc 0) (some (.iload_n 0, 1, 0, 0, 0, 0)) none))))
def rc_21 (pc : Nat) : Option RI := cond (Nat.ble 40 pc) none (cond (Nat.ble 18 pc) (cond (Nat.ble 28 pc) (cond (Nat.ble 35 pc) (cond (Nat.ble 38 pc) (cond (Nat.ble 39 pc) (cond (Nat.beq pc 39) (some (.ireturn, 40, 0, 0, 0, 0)) none) (cond (Nat.beq pc 38) (some (.iconst 3, 39, 0, 0, 0, 0)) none)) (cond (Nat.beq pc 35) (some (.goto 4, 38, 39, 0, 0, 0)) none)) (cond (Nat.ble 31 pc) (cond (Nat.ble 34 pc) (cond (Nat.beq pc 34) (some (.iconst 0, 35, 0, 0, 0, 0)) none) (cond (Nat.beq pc 31) (some (.if_icmp .ge 7, 34, 38, 0, 0, 0)) none)) (cond (Nat.beq pc 28) (some (.getfield 29, 31, 3, 2, 163, 0)) none))) (cond (Nat.ble 23 pc) (cond (Nat.ble 24 pc) (cond (Nat.ble 27 pc) (cond (Nat.beq pc 27) (some (.aload_n 0, 28, 0, 0, 0, 0)) none) (cond (Nat.beq pc 24) (some (.getfield 19, 27, 3, 3, 164, 0)) none)) (cond (Nat.beq pc 23) (some (.aload_n 0, 24, 0, 0, 0, 0)) none)) (cond (Nat.ble 21 pc) (cond (Nat.ble 22 pc) (cond (Nat.beq pc 22) (some (.ireturn, 23, 0, 0, 0, 0)) none) (cond (Nat.beq pc 21) (some (.iconst 5, 22, 0, 0, 0, 0)) none)) (cond (Nat.beq pc 18) (some (.if_icmp .eq 5, 21, 23, 0, 0, 0)) none)))) (cond (Nat.ble 10 pc) (cond (Nat.ble 13 pc) (cond (Nat.ble 14 pc) (cond (Nat.ble 17 pc) (cond (Nat.beq pc 17) (some (.iconst (-1), 18, 0, 0, 0, 0)) none) (cond (Nat.beq pc 14) (some (.invokevirtual 36, 17, 25, 0, 443, 0)) none)) (cond (Nat.beq pc 13) (some (.iload_n 2, 14, 0, 0, 0, 0)) none)) (cond (Nat.ble 11 pc) (cond (Nat.ble 12 pc) (cond (Nat.beq pc 12) (some (.iconst 0, 13, 0, 0, 0, 0)) none) (cond (Nat.beq pc 11) (some (.aload_n 1, 12, 0, 0, 0, 0)) none)) (cond (Nat.beq pc 10) (some (.aload_n 0, 11, 0, 0, 0, 0)) none))) (cond (Nat.ble 5 pc) (cond (Nat.ble 8 pc) (cond (Nat.ble 9 pc) (cond (Nat.beq pc 9) (some (.ireturn, 10, 0, 0, 0, 0)) none) (cond (Nat.beq pc 8) (some (.iconst 2, 9, 0, 0, 0, 0)) none)) (cond (Nat.beq pc 5) (some (.ifCond .ne 5, 8, 10, 0, 0, 0)) none)) (cond (Nat.ble 1 pc) (cond (Nat.ble 2 pc) (cond (Nat.beq pc 2) (some (.invokestatic 32, 5, 22, 0, 432, 0)) none) (cond (Nat.beq pc 1) (some (.iload_n 2, 2, 0, 0, 0, 0)) none)) (cond (Nat.beq pc 0) (some (.aload_n 1, 1, 0, 0, 0, 0)) none)))))
def rc_22 (pc : Nat) : Option RI := cond (Nat.ble 41 pc) none (cond (Nat.ble 18 pc) (cond (Nat.ble 30 pc) (cond (Nat.ble 36 pc) (cond (Nat.ble 39 pc) (cond (Nat.ble 40 pc) (cond (Nat.beq pc 40) (some (.ireturn, 41, 0, 0, 0, 0)) none) (cond (Nat.beq pc 39) (some (.iconst 0, 40, 0, 0, 0, 0)) none)) (cond (Nat.beq pc 36) (some (.goto 4, 39, 40, 0, 0, 0)) none)) (cond (Nat.ble 32 pc) (cond (Nat.ble 35 pc) (cond (Nat.beq pc 35) (some (.iconst 1, 36, 0, 0, 0, 0)) none) (cond (Nat.beq pc 32) (some (.if_icmp .gt 7, 35, 39, 0, 0, 0)) none)) (cond (Nat.beq pc 30) (some (.bipush 10, 32, 0, 0, 0, 0)) none))) (cond (Nat.ble 25 pc) (cond (Nat.ble 26 pc) (cond (Nat.ble 29 pc) (cond (Nat.beq pc 29) (some (.iload_n 1, 30, 0, 0, 0, 0)) none) (cond (Nat.beq pc 26) (some (.if_icmp .lt 13, 29, 39, 0, 0, 0)) none)) (cond (Nat.beq pc 25) (some (.iconst 1, 26, 0, 0, 0, 0)) none)) (cond (Nat.ble 21 pc) (cond (Nat.ble 24 pc) (cond (Nat.beq pc 24) (some (.iload_n 1, 25, 0, 0, 0, 0)) none) (cond (Nat.beq pc 21) (some (.goto (-19), 24, 2, 0, 0, 0)) none)) (cond (Nat.beq pc 18) (some (.iinc 2 1, 21, 0, 0, 0, 0)) none)))) (cond (Nat.ble 8 pc) (cond (Nat.ble 13 pc) (cond (Nat.ble 16 pc) (cond (Nat.ble 17 pc) (cond (Nat.beq pc 17) (some (.ireturn, 18, 0, 0, 0, 0)) none) (cond (Nat.beq pc 16) (some (.iconst 0, 17, 0, 0, 0, 0)) none)) (cond (Nat.beq pc 13) (some (.if_icmp .eq 5, 16, 18, 0, 0, 0)) none)) (cond (Nat.ble 9 pc) (cond (Nat.ble 12 pc) (cond (Nat.beq pc 12) (some (.iconst 2, 13, 0, 0, 0, 0)) none) (cond (Nat.beq pc 9) (some (.invokevirtual 40, 12, 23, 1, 435, 0)) none)) (cond (Nat.beq pc 8) (some (.iload_n 2, 9, 0, 0, 0, 0)) none))) (cond (Nat.ble 3 pc) (cond (Nat.ble 4 pc) (cond (Nat.ble 7 pc) (cond (Nat.beq pc 7) (some (.aload_n 0, 8, 0, 0, 0, 0)) none) (cond (Nat.beq pc 4) (some (.if_icmp .ge 20, 7, 24, 0, 0, 0)) none)) (cond (Nat.beq pc 3) (some (.iload_n 1, 4, 0, 0, 0, 0)) none)) (cond (Nat.ble 1 pc) (cond (Nat.ble 2 pc) (cond (Nat.beq pc 2) (some (.iload_n 2, 3, 0, 0, 0, 0)) none) (cond (Nat.beq pc 1) (some (.istore_n 2, 2, 0, 0, 0, 0)) none)) (cond (Nat.beq pc 0) (some (.iconst 0, 1, 0, 0, 0, 0)) none)))))
def rc_23 (pc : Nat) : Option RI := cond (Nat.ble 68 pc) none (cond (Nat.ble 34 pc) (cond (Nat.ble 51 pc) (cond (Nat.ble 59 pc) (cond (Nat.ble 63 pc) (cond (Nat.ble 66 pc) (cond (Nat.ble 67 pc) (cond (Nat.beq pc 67) (some (.ireturn, 68, 0, 0, 0, 0)) none) (cond (Nat.beq pc 66) (some (.iconst 0, 67, 0, 0, 0, 0)) none)) (cond (Nat.beq pc 63) (some (.goto 4, 66, 67, 0, 0, 0)) none)) (cond (Nat.ble 62 pc) (cond (Nat.beq pc 62) (some (.iconst 5, 63, 0, 0, 0, 0)) none) (cond (Nat.beq pc 59) (some (.if_icmp .ne 7, 62, 66, 0, 0, 0)) none))) (cond (Nat.ble 55 pc) (cond (Nat.ble 56 pc) (cond (Nat.ble 57 pc) (cond (Nat.beq pc 57) (some (.bipush 59, 59, 0, 0, 0, 0)) none) (cond (Nat.beq pc 56) (some (.iload_n 2, 57, 0, 0, 0, 0)) none)) (cond (Nat.beq pc 55) (some (.ireturn, 56, 0, 0, 0, 0)) none)) (cond (Nat.ble 54 pc) (cond (Nat.beq pc 54) (some (.iconst 4, 55, 0, 0, 0, 0)) none) (cond (Nat.beq pc 51) (some (.if_icmp .ne 5, 54, 56, 0, 0, 0)) none)))) (cond (Nat.ble 43 pc) (cond (Nat.ble 47 pc) (cond (Nat.ble 48 pc) (cond (Nat.ble 49 pc) (cond (Nat.beq pc 49) (some (.bipush 44, 51, 0, 0, 0, 0)) none) (cond (Nat.beq pc 48) (some (.iload_n 2, 49, 0, 0, 0, 0)) none)) (cond (Nat.beq pc 47) (some (.ireturn, 48, 0, 0, 0, 0)) none)) (cond (Nat.ble 46 pc) (cond (Nat.beq pc 46) (some (.iconst 1, 47, 0, 0, 0, 0)) none) (cond (Nat.beq pc 43) (some (.if_icmp .ne 5, 46, 48, 0, 0, 0)) none))) (cond (Nat.ble 37 pc) (cond (Nat.ble 40 pc) (cond (Nat.ble 41 pc) (cond (Nat.beq pc 41) (some (.bipush 10, 43, 0, 0, 0, 0)) none) (cond (Nat.beq pc 40) (some (.iload_n 2, 41, 0, 0, 0, 0)) none)) (cond (Nat.beq pc 37) (some (.if_icmp .eq 9, 40, 46, 0, 0, 0)) none)) (cond (Nat.ble 35 pc) (cond (Nat.beq pc 35) (some (.bipush 32, 37, 0, 0, 0, 0)) none) (cond (Nat.beq pc 34) (some (.iload_n 2, 35, 0, 0, 0, 0)) none))))) (cond (Nat.ble 18 pc) (cond (Nat.ble 26 pc) (cond (Nat.ble 29 pc) (cond (Nat.ble 32 pc) (cond (Nat.ble 33 pc) (cond (Nat.beq pc 33) (some (.ireturn, 34, 0, 0, 0, 0)) none) (cond (Nat.beq pc 32) (some (.iconst 3, 33, 0, 0, 0, 0)) none)) (cond (Nat.beq pc 29) (some (.if_icmp .gt 5, 32, 34, 0, 0, 0)) none)) (cond (Nat.ble 27 pc) (cond (Nat.beq pc 27) (some (.bipush 57, 29, 0, 0, 0, 0)) none) (cond (Nat.beq pc 26) (some (.iload_n 2, 27, 0, 0, 0, 0)) none))) (cond (Nat.ble 20 pc) (cond (Nat.ble 21 pc) (cond (Nat.ble 23 pc) (cond (Nat.beq pc 23) (some (.if_icmp .lt 11, 26, 34, 0, 0, 0)) none) (cond (Nat.beq pc 21) (some (.bipush 48, 23, 0, 0, 0, 0)) none)) (cond (Nat.beq pc 20) (some (.iload_n 2, 21, 0, 0, 0, 0)) none)) (cond (Nat.ble 19 pc) (cond (Nat.beq pc 19) (some (.ireturn, 20, 0, 0, 0, 0)) none) (cond (Nat.beq pc 18) (some (.iconst 2, 19, 0, 0, 0, 0)) none)))) (cond (Nat.ble 7 pc) (cond (Nat.ble 12 pc) (cond (Nat.ble 13 pc) (cond (Nat.ble 15 pc) (cond (Nat.beq pc 15) (some (.if_icmp .gt 5, 18, 20, 0, 0, 0)) none) (cond (Nat.beq pc 13) (some (.bipush 122, 15, 0, 0, 0, 0)) none)) (cond (Nat.beq pc 12) (some (.iload_n 2, 13, 0, 0, 0, 0)) none)) (cond (Nat.ble 9 pc) (cond (Nat.beq pc 9) (some (.if_icmp .lt 11, 12, 20, 0, 0, 0)) none) (cond (Nat.beq pc 7) (some (.bipush 97, 9, 0, 0, 0, 0)) none))) (cond (Nat.ble 2 pc) (cond (Nat.ble 5 pc) (cond (Nat.ble 6 pc) (cond (Nat.beq pc 6) (some (.iload_n 2, 7, 0, 0, 0, 0)) none) (cond (Nat.beq pc 5) (some (.istore_n 2, 6, 0, 0, 0, 0)) none)) (cond (Nat.beq pc 2) (some (.invokevirtual 23, 5, 24, 0, 439, 0)) none)) (cond (Nat.ble 1 pc) (cond (Nat.beq pc 1) (some (.iload_n 1, 2, 0, 0, 0, 0)) none) (cond (Nat.beq pc 0) (some (.aload_n 0, 1, 0, 0, 0, 0)) none))))))
def rc_24 (pc : Nat) : Option RI := cond (Nat.ble 27 pc) none (cond (Nat.ble 13 pc) (cond (Nat.ble 21 pc) (cond (Nat.ble 25 pc) (cond (Nat.ble 26 pc) (cond (Nat.beq pc 26) (some (.ireturn, 27, 0, 0, 0, 0)) none) (cond (Nat.beq pc 25) (some (.iconst (-1), 26, 0, 0, 0, 0)) none)) (cond (Nat.ble 22 pc) (cond (Nat.beq pc 22) (some (.goto 4, 25, 26, 0, 0, 0)) none) (cond (Nat.beq pc 21) (some (.iand, 22, 0, 0, 0, 0)) none))) (cond (Nat.ble 17 pc) (cond (Nat.ble 18 pc) (cond (Nat.beq pc 18) (some (.sipush 255, 21, 0, 0, 0, 0)) none) (cond (Nat.beq pc 17) (some (.baload, 18, 0, 0, 0, 0)) none)) (cond (Nat.ble 16 pc) (cond (Nat.beq pc 16) (some (.iload_n 1, 17, 0, 0, 0, 0)) none) (cond (Nat.beq pc 13) (some (.getfield 9, 16, 7, 0, 137, 0)) none)))) (cond (Nat.ble 5 pc) (cond (Nat.ble 9 pc) (cond (Nat.ble 12 pc) (cond (Nat.beq pc 12) (some (.aload_n 0, 13, 0, 0, 0, 0)) none) (cond (Nat.beq pc 9) (some (.if_icmp .ge 16, 12, 25, 0, 0, 0)) none)) (cond (Nat.ble 6 pc) (cond (Nat.beq pc 6) (some (.getfield 15, 9, 7, 1, 138, 0)) none) (cond (Nat.beq pc 5) (some (.aload_n 0, 6, 0, 0, 0, 0)) none))) (cond (Nat.ble 1 pc) (cond (Nat.ble 4 pc) (cond (Nat.beq pc 4) (some (.iload_n 1, 5, 0, 0, 0, 0)) none) (cond (Nat.beq pc 1) (some (.ifCond .lt 24, 4, 25, 0, 0, 0)) none)) (cond (Nat.beq pc 0) (some (.iload_n 1, 1, 0, 0, 0, 0)) none))))
def rc_25 (pc : Nat) : Option RI := cond (Nat.ble 47 pc) none (cond (Nat.ble 22 pc) (cond (Nat.ble 33 pc) (cond (Nat.ble 39 pc) (cond (Nat.ble 45 pc) (cond (Nat.ble 46 pc) (cond (Nat.beq pc 46) (some (.ireturn, 47, 0, 0, 0, 0)) none) (cond (Nat.beq pc 45) (some (.iconst (-1), 46, 0, 0, 0, 0)) none)) (cond (Nat.ble 42 pc) (cond (Nat.beq pc 42) (some (.goto (-39), 45, 3, 0, 0, 0)) none) (cond (Nat.beq pc 39) (some (.iinc 4 1, 42, 0, 0, 0, 0)) none))) (cond (Nat.ble 36 pc) (cond (Nat.ble 38 pc) (cond (Nat.beq pc 38) (some (.ireturn, 39, 0, 0, 0, 0)) none) (cond (Nat.beq pc 36) (some (.iload 4, 38, 0, 0, 0, 0)) none)) (cond (Nat.beq pc 33) (some (.ifCond .eq 6, 36, 39, 0, 0, 0)) none))) (cond (Nat.ble 28 pc) (cond (Nat.ble 29 pc) (cond (Nat.ble 30 pc) (cond (Nat.beq pc 30) (some (.invokevirtual 46, 33, 26, 0, 447, 0)) none) (cond (Nat.beq pc 29) (some (.iload_n 2, 30, 0, 0, 0, 0)) none)) (cond (Nat.beq pc 28) (some (.aload_n 1, 29, 0, 0, 0, 0)) none)) (cond (Nat.ble 25 pc) (cond (Nat.ble 26 pc) (cond (Nat.beq pc 26) (some (.iload 4, 28, 0, 0, 0, 0)) none) (cond (Nat.beq pc 25) (some (.aload_n 0, 26, 0, 0, 0, 0)) none)) (cond (Nat.beq pc 22) (some (.if_icmp .ne 17, 25, 39, 0, 0, 0)) none)))) (cond (Nat.ble 12 pc) (cond (Nat.ble 18 pc) (cond (Nat.ble 20 pc) (cond (Nat.ble 21 pc) (cond (Nat.beq pc 21) (some (.isub, 22, 0, 0, 0, 0)) none) (cond (Nat.beq pc 20) (some (.iload_n 2, 21, 0, 0, 0, 0)) none)) (cond (Nat.ble 19 pc) (cond (Nat.beq pc 19) (some (.iload_n 3, 20, 0, 0, 0, 0)) none) (cond (Nat.beq pc 18) (some (.iaload, 19, 0, 0, 0, 0)) none))) (cond (Nat.ble 13 pc) (cond (Nat.ble 16 pc) (cond (Nat.beq pc 16) (some (.iload 4, 18, 0, 0, 0, 0)) none) (cond (Nat.beq pc 13) (some (.getfield 15, 16, 3, 1, 162, 0)) none)) (cond (Nat.beq pc 12) (some (.aload_n 0, 13, 0, 0, 0, 0)) none))) (cond (Nat.ble 5 pc) (cond (Nat.ble 6 pc) (cond (Nat.ble 9 pc) (cond (Nat.beq pc 9) (some (.if_icmp .ge 36, 12, 45, 0, 0, 0)) none) (cond (Nat.beq pc 6) (some (.getfield 19, 9, 3, 3, 164, 0)) none)) (cond (Nat.beq pc 5) (some (.aload_n 0, 6, 0, 0, 0, 0)) none)) (cond (Nat.ble 1 pc) (cond (Nat.ble 3 pc) (cond (Nat.beq pc 3) (some (.iload 4, 5, 0, 0, 0, 0)) none) (cond (Nat.beq pc 1) (some (.istore 4, 3, 0, 0, 0, 0)) none)) (cond (Nat.beq pc 0) (some (.iconst 0, 1, 0, 0, 0, 0)) none)))))
def rc_26 (pc : Nat) : Option RI := cond (Nat.ble 47 pc) none (cond (Nat.ble 24 pc) (cond (Nat.ble 34 pc) (cond (Nat.ble 39 pc) (cond (Nat.ble 45 pc) (cond (Nat.ble 46 pc) (cond (Nat.beq pc 46) (some (.ireturn, 47, 0, 0, 0, 0)) none) (cond (Nat.beq pc 45) (some (.iconst 1, 46, 0, 0, 0, 0)) none)) (cond (Nat.ble 42 pc) (cond (Nat.beq pc 42) (some (.goto (-39), 45, 3, 0, 0, 0)) none) (cond (Nat.beq pc 39) (some (.iinc 4 1, 42, 0, 0, 0, 0)) none))) (cond (Nat.ble 37 pc) (cond (Nat.ble 38 pc) (cond (Nat.beq pc 38) (some (.ireturn, 39, 0, 0, 0, 0)) none) (cond (Nat.beq pc 37) (some (.iconst 0, 38, 0, 0, 0, 0)) none)) (cond (Nat.beq pc 34) (some (.if_icmp .eq 5, 37, 39, 0, 0, 0)) none))) (cond (Nat.ble 27 pc) (cond (Nat.ble 30 pc) (cond (Nat.ble 31 pc) (cond (Nat.beq pc 31) (some (.invokevirtual 50, 34, 24, 1, 451, 0)) none) (cond (Nat.beq pc 30) (some (.iadd, 31, 0, 0, 0, 0)) none)) (cond (Nat.ble 28 pc) (cond (Nat.beq pc 28) (some (.iload 4, 30, 0, 0, 0, 0)) none) (cond (Nat.beq pc 27) (some (.iload_n 3, 28, 0, 0, 0, 0)) none))) (cond (Nat.ble 25 pc) (cond (Nat.ble 26 pc) (cond (Nat.beq pc 26) (some (.aload_n 2, 27, 0, 0, 0, 0)) none) (cond (Nat.beq pc 25) (some (.baload, 26, 0, 0, 0, 0)) none)) (cond (Nat.beq pc 24) (some (.iadd, 25, 0, 0, 0, 0)) none)))) (cond (Nat.ble 11 pc) (cond (Nat.ble 18 pc) (cond (Nat.ble 21 pc) (cond (Nat.ble 22 pc) (cond (Nat.beq pc 22) (some (.iload 4, 24, 0, 0, 0, 0)) none) (cond (Nat.beq pc 21) (some (.imul, 22, 0, 0, 0, 0)) none)) (cond (Nat.ble 19 pc) (cond (Nat.beq pc 19) (some (.bipush 10, 21, 0, 0, 0, 0)) none) (cond (Nat.beq pc 18) (some (.iload_n 1, 19, 0, 0, 0, 0)) none))) (cond (Nat.ble 14 pc) (cond (Nat.ble 15 pc) (cond (Nat.beq pc 15) (some (.getfield 9, 18, 3, 0, 161, 0)) none) (cond (Nat.beq pc 14) (some (.aload_n 0, 15, 0, 0, 0, 0)) none)) (cond (Nat.beq pc 11) (some (.if_icmp .ge 34, 14, 45, 0, 0, 0)) none))) (cond (Nat.ble 5 pc) (cond (Nat.ble 9 pc) (cond (Nat.ble 10 pc) (cond (Nat.beq pc 10) (some (.iaload, 11, 0, 0, 0, 0)) none) (cond (Nat.beq pc 9) (some (.iload_n 1, 10, 0, 0, 0, 0)) none)) (cond (Nat.ble 6 pc) (cond (Nat.beq pc 6) (some (.getfield 15, 9, 3, 1, 162, 0)) none) (cond (Nat.beq pc 5) (some (.aload_n 0, 6, 0, 0, 0, 0)) none))) (cond (Nat.ble 1 pc) (cond (Nat.ble 3 pc) (cond (Nat.beq pc 3) (some (.iload 4, 5, 0, 0, 0, 0)) none) (cond (Nat.beq pc 1) (some (.istore 4, 3, 0, 0, 0, 0)) none)) (cond (Nat.beq pc 0) (some (.iconst 0, 1, 0, 0, 0, 0)) none)))))
def rc_27 (pc : Nat) : Option RI := cond (Nat.ble 38 pc) none (cond (Nat.ble 20 pc) (cond (Nat.ble 28 pc) (cond (Nat.ble 34 pc) (cond (Nat.ble 36 pc) (cond (Nat.ble 37 pc) (cond (Nat.beq pc 37) (some (.return_, 38, 0, 0, 0, 0)) none) (cond (Nat.beq pc 36) (some (.iastore, 37, 0, 0, 0, 0)) none)) (cond (Nat.beq pc 34) (some (.iload 4, 36, 0, 0, 0, 0)) none)) (cond (Nat.ble 29 pc) (cond (Nat.ble 32 pc) (cond (Nat.beq pc 32) (some (.iload 5, 34, 0, 0, 0, 0)) none) (cond (Nat.beq pc 29) (some (.getfield 24, 32, 8, 2, 182, 0)) none)) (cond (Nat.beq pc 28) (some (.aload_n 0, 29, 0, 0, 0, 0)) none))) (cond (Nat.ble 24 pc) (cond (Nat.ble 26 pc) (cond (Nat.ble 27 pc) (cond (Nat.beq pc 27) (some (.iastore, 28, 0, 0, 0, 0)) none) (cond (Nat.beq pc 26) (some (.iload_n 3, 27, 0, 0, 0, 0)) none)) (cond (Nat.beq pc 24) (some (.iload 5, 26, 0, 0, 0, 0)) none)) (cond (Nat.ble 21 pc) (cond (Nat.beq pc 21) (some (.getfield 20, 24, 8, 1, 181, 0)) none) (cond (Nat.beq pc 20) (some (.aload_n 0, 21, 0, 0, 0, 0)) none)))) (cond (Nat.ble 9 pc) (cond (Nat.ble 12 pc) (cond (Nat.ble 14 pc) (cond (Nat.ble 17 pc) (cond (Nat.beq pc 17) (some (.ifCond .eq 20, 20, 37, 0, 0, 0)) none) (cond (Nat.beq pc 14) (some (.invokevirtual 35, 17, 29, 0, 460, 0)) none)) (cond (Nat.beq pc 12) (some (.iload 5, 14, 0, 0, 0, 0)) none)) (cond (Nat.ble 11 pc) (cond (Nat.beq pc 11) (some (.aload_n 0, 12, 0, 0, 0, 0)) none) (cond (Nat.beq pc 9) (some (.istore 5, 11, 0, 0, 0, 0)) none))) (cond (Nat.ble 4 pc) (cond (Nat.ble 5 pc) (cond (Nat.ble 6 pc) (cond (Nat.beq pc 6) (some (.invokevirtual 31, 9, 28, 1, 456, 0)) none) (cond (Nat.beq pc 5) (some (.iload_n 2, 6, 0, 0, 0, 0)) none)) (cond (Nat.beq pc 4) (some (.aload_n 1, 5, 0, 0, 0, 0)) none)) (cond (Nat.ble 1 pc) (cond (Nat.beq pc 1) (some (.getfield 14, 4, 8, 0, 178, 0)) none) (cond (Nat.beq pc 0) (some (.aload_n 0, 1, 0, 0, 0, 0)) none)))))
def rc_28 (pc : Nat) : Option RI := cond (Nat.ble 79 pc) none (cond (Nat.ble 39 pc) (cond (Nat.ble 61 pc) (cond (Nat.ble 69 pc) (cond (Nat.ble 76 pc) (cond (Nat.ble 77 pc) (cond (Nat.ble 78 pc) (cond (Nat.beq pc 78) (some (.ireturn, 79, 0, 0, 0, 0)) none) (cond (Nat.beq pc 77) (some (.isub, 78, 0, 0, 0, 0)) none)) (cond (Nat.beq pc 76) (some (.iconst 1, 77, 0, 0, 0, 0)) none)) (cond (Nat.ble 72 pc) (cond (Nat.ble 73 pc) (cond (Nat.beq pc 73) (some (.getfield 19, 76, 3, 3, 164, 0)) none) (cond (Nat.beq pc 72) (some (.aload_n 0, 73, 0, 0, 0, 0)) none)) (cond (Nat.beq pc 69) (some (.putfield 19, 72, 3, 3, 164, 0)) none))) (cond (Nat.ble 64 pc) (cond (Nat.ble 67 pc) (cond (Nat.ble 68 pc) (cond (Nat.beq pc 68) (some (.iadd, 69, 0, 0, 0, 0)) none) (cond (Nat.beq pc 67) (some (.iconst 1, 68, 0, 0, 0, 0)) none)) (cond (Nat.beq pc 64) (some (.getfield 19, 67, 3, 3, 164, 0)) none)) (cond (Nat.ble 62 pc) (cond (Nat.ble 63 pc) (cond (Nat.beq pc 63) (some (.dup, 64, 0, 0, 0, 0)) none) (cond (Nat.beq pc 62) (some (.aload_n 0, 63, 0, 0, 0, 0)) none)) (cond (Nat.beq pc 61) (some (.iastore, 62, 0, 0, 0, 0)) none)))) (cond (Nat.ble 49 pc) (cond (Nat.ble 56 pc) (cond (Nat.ble 57 pc) (cond (Nat.ble 60 pc) (cond (Nat.beq pc 60) (some (.iload_n 2, 61, 0, 0, 0, 0)) none) (cond (Nat.beq pc 57) (some (.getfield 19, 60, 3, 3, 164, 0)) none)) (cond (Nat.beq pc 56) (some (.aload_n 0, 57, 0, 0, 0, 0)) none)) (cond (Nat.ble 52 pc) (cond (Nat.ble 53 pc) (cond (Nat.beq pc 53) (some (.getfield 15, 56, 3, 1, 162, 0)) none) (cond (Nat.beq pc 52) (some (.aload_n 0, 53, 0, 0, 0, 0)) none)) (cond (Nat.beq pc 49) (some (.goto (-28), 52, 21, 0, 0, 0)) none))) (cond (Nat.ble 44 pc) (cond (Nat.ble 45 pc) (cond (Nat.ble 46 pc) (cond (Nat.beq pc 46) (some (.iinc 3 1, 49, 0, 0, 0, 0)) none) (cond (Nat.beq pc 45) (some (.bastore, 46, 0, 0, 0, 0)) none)) (cond (Nat.beq pc 44) (some (.i2b, 45, 0, 0, 0, 0)) none)) (cond (Nat.ble 40 pc) (cond (Nat.ble 41 pc) (cond (Nat.beq pc 41) (some (.invokevirtual 50, 44, 24, 1, 451, 0)) none) (cond (Nat.beq pc 40) (some (.iload_n 3, 41, 0, 0, 0, 0)) none)) (cond (Nat.beq pc 39) (some (.aload_n 1, 40, 0, 0, 0, 0)) none))))) (cond (Nat.ble 20 pc) (cond (Nat.ble 30 pc) (cond (Nat.ble 36 pc) (cond (Nat.ble 37 pc) (cond (Nat.ble 38 pc) (cond (Nat.beq pc 38) (some (.iadd, 39, 0, 0, 0, 0)) none) (cond (Nat.beq pc 37) (some (.iload_n 3, 38, 0, 0, 0, 0)) none)) (cond (Nat.beq pc 36) (some (.imul, 37, 0, 0, 0, 0)) none)) (cond (Nat.ble 31 pc) (cond (Nat.ble 34 pc) (cond (Nat.beq pc 34) (some (.bipush 10, 36, 0, 0, 0, 0)) none) (cond (Nat.beq pc 31) (some (.getfield 19, 34, 3, 3, 164, 0)) none)) (cond (Nat.beq pc 30) (some (.aload_n 0, 31, 0, 0, 0, 0)) none))) (cond (Nat.ble 23 pc) (cond (Nat.ble 26 pc) (cond (Nat.ble 27 pc) (cond (Nat.beq pc 27) (some (.getfield 9, 30, 3, 0, 161, 0)) none) (cond (Nat.beq pc 26) (some (.aload_n 0, 27, 0, 0, 0, 0)) none)) (cond (Nat.beq pc 23) (some (.if_icmp .ge 29, 26, 52, 0, 0, 0)) none)) (cond (Nat.ble 21 pc) (cond (Nat.ble 22 pc) (cond (Nat.beq pc 22) (some (.iload_n 2, 23, 0, 0, 0, 0)) none) (cond (Nat.beq pc 21) (some (.iload_n 3, 22, 0, 0, 0, 0)) none)) (cond (Nat.beq pc 20) (some (.istore_n 3, 21, 0, 0, 0, 0)) none)))) (cond (Nat.ble 11 pc) (cond (Nat.ble 17 pc) (cond (Nat.ble 18 pc) (cond (Nat.ble 19 pc) (cond (Nat.beq pc 19) (some (.iconst 0, 20, 0, 0, 0, 0)) none) (cond (Nat.beq pc 18) (some (.ireturn, 19, 0, 0, 0, 0)) none)) (cond (Nat.beq pc 17) (some (.iconst (-1), 18, 0, 0, 0, 0)) none)) (cond (Nat.ble 12 pc) (cond (Nat.ble 14 pc) (cond (Nat.beq pc 14) (some (.if_icmp .le 5, 17, 19, 0, 0, 0)) none) (cond (Nat.beq pc 12) (some (.bipush 10, 14, 0, 0, 0, 0)) none)) (cond (Nat.beq pc 11) (some (.iload_n 2, 12, 0, 0, 0, 0)) none))) (cond (Nat.ble 4 pc) (cond (Nat.ble 5 pc) (cond (Nat.ble 8 pc) (cond (Nat.beq pc 8) (some (.if_icmp .ge 9, 11, 17, 0, 0, 0)) none) (cond (Nat.beq pc 5) (some (.getfield 29, 8, 3, 2, 163, 0)) none)) (cond (Nat.beq pc 4) (some (.aload_n 0, 5, 0, 0, 0, 0)) none)) (cond (Nat.ble 1 pc) (cond (Nat.beq pc 1) (some (.getfield 19, 4, 3, 3, 164, 0)) none) (cond (Nat.beq pc 0) (some (.aload_n 0, 1, 0, 0, 0, 0)) none))))))
def rc_29 (pc : Nat) : Option RI := cond (Nat.ble 21 pc) none (cond (Nat.ble 9 pc) (cond (Nat.ble 16 pc) (cond (Nat.ble 19 pc) (cond (Nat.ble 20 pc) (cond (Nat.beq pc 20) (some (.ireturn, 21, 0, 0, 0, 0)) none) (cond (Nat.beq pc 19) (some (.iconst 0, 20, 0, 0, 0, 0)) none)) (cond (Nat.beq pc 16) (some (.goto 4, 19, 20, 0, 0, 0)) none)) (cond (Nat.ble 12 pc) (cond (Nat.ble 15 pc) (cond (Nat.beq pc 15) (some (.iconst 1, 16, 0, 0, 0, 0)) none) (cond (Nat.beq pc 12) (some (.if_icmp .ge 7, 15, 19, 0, 0, 0)) none)) (cond (Nat.beq pc 9) (some (.getfield 27, 12, 3, 3, 165, 0)) none))) (cond (Nat.ble 4 pc) (cond (Nat.ble 5 pc) (cond (Nat.ble 6 pc) (cond (Nat.beq pc 6) (some (.getfield 14, 9, 8, 0, 178, 0)) none) (cond (Nat.beq pc 5) (some (.aload_n 0, 6, 0, 0, 0, 0)) none)) (cond (Nat.beq pc 4) (some (.iload_n 1, 5, 0, 0, 0, 0)) none)) (cond (Nat.ble 1 pc) (cond (Nat.beq pc 1) (some (.ifCond .lt 18, 4, 19, 0, 0, 0)) none) (cond (Nat.beq pc 0) (some (.iload_n 1, 1, 0, 0, 0, 0)) none))))
def rc_30 (pc : Nat) : Option RI := cond (Nat.ble 30 pc) none (cond (Nat.ble 16 pc) (cond (Nat.ble 24 pc) (cond (Nat.ble 26 pc) (cond (Nat.ble 29 pc) (cond (Nat.beq pc 29) (some (.ireturn, 30, 0, 0, 0, 0)) none) (cond (Nat.beq pc 26) (some (.invokevirtual 74, 29, 12, 0, 392, 0)) none)) (cond (Nat.ble 25 pc) (cond (Nat.beq pc 25) (some (.iload_n 2, 26, 0, 0, 0, 0)) none) (cond (Nat.beq pc 24) (some (.aload_n 0, 25, 0, 0, 0, 0)) none))) (cond (Nat.ble 18 pc) (cond (Nat.ble 21 pc) (cond (Nat.beq pc 21) (some (.goto 8, 24, 29, 0, 0, 0)) none) (cond (Nat.beq pc 18) (some (.invokevirtual 78, 21, 13, 0, 396, 0)) none)) (cond (Nat.ble 17 pc) (cond (Nat.beq pc 17) (some (.isub, 18, 0, 0, 0, 0)) none) (cond (Nat.beq pc 16) (some (.iconst 1, 17, 0, 0, 0, 0)) none)))) (cond (Nat.ble 8 pc) (cond (Nat.ble 12 pc) (cond (Nat.ble 13 pc) (cond (Nat.beq pc 13) (some (.getfield 165, 16, 3, 3, 167, 0)) none) (cond (Nat.beq pc 12) (some (.aload_n 1, 13, 0, 0, 0, 0)) none)) (cond (Nat.ble 11 pc) (cond (Nat.beq pc 11) (some (.aload_n 0, 12, 0, 0, 0, 0)) none) (cond (Nat.beq pc 8) (some (.ifCond .ne 16, 11, 24, 0, 0, 0)) none))) (cond (Nat.ble 4 pc) (cond (Nat.ble 7 pc) (cond (Nat.beq pc 7) (some (.iload_n 2, 8, 0, 0, 0, 0)) none) (cond (Nat.beq pc 4) (some (.invokevirtual 158, 7, 31, 1, 468, 0)) none)) (cond (Nat.ble 1 pc) (cond (Nat.beq pc 1) (some (.getfield 12, 4, 9, 0, 357, 0)) none) (cond (Nat.beq pc 0) (some (.aload_n 0, 1, 0, 0, 0, 0)) none)))))
def rc_31 (pc : Nat) : Option RI := cond (Nat.ble 6 pc) none (cond (Nat.ble 2 pc) (cond (Nat.ble 5 pc) (cond (Nat.beq pc 5) (some (.return_, 6, 0, 0, 0, 0)) none) (cond (Nat.beq pc 2) (some (.putfield 15, 5, 7, 1, 138, 0)) none)) (cond (Nat.ble 1 pc) (cond (Nat.beq pc 1) (some (.iconst 0, 2, 0, 0, 0, 0)) none) (cond (Nat.beq pc 0) (some (.aload_n 0, 1, 0, 0, 0, 0)) none)))
def rc_32 (pc : Nat) : Option RI := cond (Nat.ble 85 pc) none (cond (Nat.ble 40 pc) (cond (Nat.ble 63 pc) (cond (Nat.ble 73 pc) (cond (Nat.ble 80 pc) (cond (Nat.ble 81 pc) (cond (Nat.ble 84 pc) (cond (Nat.beq pc 84) (some (.ireturn, 85, 0, 0, 0, 0)) none) (cond (Nat.beq pc 81) (some (.invokevirtual 116, 84, 30, 0, 464, 0)) none)) (cond (Nat.beq pc 80) (some (.iload_n 3, 81, 0, 0, 0, 0)) none)) (cond (Nat.ble 74 pc) (cond (Nat.ble 77 pc) (cond (Nat.beq pc 77) (some (.getfield 123, 80, 2, 0, 200, 0)) none) (cond (Nat.beq pc 74) (some (.getfield 26, 77, 9, 2, 359, 0)) none)) (cond (Nat.beq pc 73) (some (.aload_n 0, 74, 0, 0, 0, 0)) none))) (cond (Nat.ble 68 pc) (cond (Nat.ble 69 pc) (cond (Nat.ble 72 pc) (cond (Nat.beq pc 72) (some (.aload_n 0, 73, 0, 0, 0, 0)) none) (cond (Nat.beq pc 69) (some (.invokevirtual 124, 72, 34, 1, 480, 0)) none)) (cond (Nat.beq pc 68) (some (.iload_n 1, 69, 0, 0, 0, 0)) none)) (cond (Nat.ble 64 pc) (cond (Nat.ble 67 pc) (cond (Nat.beq pc 67) (some (.iload_n 2, 68, 0, 0, 0, 0)) none) (cond (Nat.beq pc 64) (some (.getfield 12, 67, 9, 0, 357, 0)) none)) (cond (Nat.beq pc 63) (some (.aload_n 0, 64, 0, 0, 0, 0)) none)))) (cond (Nat.ble 51 pc) (cond (Nat.ble 56 pc) (cond (Nat.ble 59 pc) (cond (Nat.ble 60 pc) (cond (Nat.beq pc 60) (some (.getfield 26, 63, 9, 2, 359, 0)) none) (cond (Nat.beq pc 59) (some (.aload_n 0, 60, 0, 0, 0, 0)) none)) (cond (Nat.beq pc 56) (some (.ifCond .ne 16, 59, 72, 0, 0, 0)) none)) (cond (Nat.ble 54 pc) (cond (Nat.ble 55 pc) (cond (Nat.beq pc 55) (some (.iload_n 3, 56, 0, 0, 0, 0)) none) (cond (Nat.beq pc 54) (some (.istore_n 3, 55, 0, 0, 0, 0)) none)) (cond (Nat.beq pc 51) (some (.invokevirtual 106, 54, 21, 1, 428, 0)) none))) (cond (Nat.ble 46 pc) (cond (Nat.ble 47 pc) (cond (Nat.ble 50 pc) (cond (Nat.beq pc 50) (some (.iload_n 2, 51, 0, 0, 0, 0)) none) (cond (Nat.beq pc 47) (some (.getfield 12, 50, 9, 0, 357, 0)) none)) (cond (Nat.beq pc 46) (some (.aload_n 0, 47, 0, 0, 0, 0)) none)) (cond (Nat.ble 43 pc) (cond (Nat.beq pc 43) (some (.getfield 123, 46, 2, 0, 200, 0)) none) (cond (Nat.beq pc 40) (some (.getfield 26, 43, 9, 2, 359, 0)) none))))) (cond (Nat.ble 21 pc) (cond (Nat.ble 30 pc) (cond (Nat.ble 35 pc) (cond (Nat.ble 38 pc) (cond (Nat.ble 39 pc) (cond (Nat.beq pc 39) (some (.aload_n 0, 40, 0, 0, 0, 0)) none) (cond (Nat.beq pc 38) (some (.ireturn, 39, 0, 0, 0, 0)) none)) (cond (Nat.beq pc 35) (some (.invokevirtual 74, 38, 12, 0, 392, 0)) none)) (cond (Nat.ble 33 pc) (cond (Nat.ble 34 pc) (cond (Nat.beq pc 34) (some (.iconst 2, 35, 0, 0, 0, 0)) none) (cond (Nat.beq pc 33) (some (.aload_n 0, 34, 0, 0, 0, 0)) none)) (cond (Nat.beq pc 30) (some (.ifCond .ne 9, 33, 39, 0, 0, 0)) none))) (cond (Nat.ble 23 pc) (cond (Nat.ble 26 pc) (cond (Nat.ble 27 pc) (cond (Nat.beq pc 27) (some (.invokevirtual 95, 30, 19, 1, 421, 0)) none) (cond (Nat.beq pc 26) (some (.iload_n 2, 27, 0, 0, 0, 0)) none)) (cond (Nat.beq pc 23) (some (.getfield 12, 26, 9, 0, 357, 0)) none)) (cond (Nat.ble 22 pc) (cond (Nat.beq pc 22) (some (.aload_n 0, 23, 0, 0, 0, 0)) none) (cond (Nat.beq pc 21) (some (.ireturn, 22, 0, 0, 0, 0)) none)))) (cond (Nat.ble 9 pc) (cond (Nat.ble 16 pc) (cond (Nat.ble 17 pc) (cond (Nat.ble 18 pc) (cond (Nat.beq pc 18) (some (.invokevirtual 74, 21, 12, 0, 392, 0)) none) (cond (Nat.beq pc 17) (some (.iconst 1, 18, 0, 0, 0, 0)) none)) (cond (Nat.beq pc 16) (some (.aload_n 0, 17, 0, 0, 0, 0)) none)) (cond (Nat.ble 10 pc) (cond (Nat.ble 13 pc) (cond (Nat.beq pc 13) (some (.ifCond .ne 9, 16, 22, 0, 0, 0)) none) (cond (Nat.beq pc 10) (some (.invokevirtual 120, 13, 33, 1, 476, 0)) none)) (cond (Nat.beq pc 9) (some (.iload_n 1, 10, 0, 0, 0, 0)) none))) (cond (Nat.ble 2 pc) (cond (Nat.ble 5 pc) (cond (Nat.ble 6 pc) (cond (Nat.beq pc 6) (some (.getfield 26, 9, 9, 2, 359, 0)) none) (cond (Nat.beq pc 5) (some (.aload_n 0, 6, 0, 0, 0, 0)) none)) (cond (Nat.beq pc 2) (some (.if_icmp .eq 20, 5, 22, 0, 0, 0)) none)) (cond (Nat.ble 1 pc) (cond (Nat.beq pc 1) (some (.iconst (-1), 2, 0, 0, 0, 0)) none) (cond (Nat.beq pc 0) (some (.iload_n 1, 1, 0, 0, 0, 0)) none))))))
def rc_33 (pc : Nat) : Option RI := cond (Nat.ble 21 pc) none (cond (Nat.ble 9 pc) (cond (Nat.ble 16 pc) (cond (Nat.ble 19 pc) (cond (Nat.ble 20 pc) (cond (Nat.beq pc 20) (some (.ireturn, 21, 0, 0, 0, 0)) none) (cond (Nat.beq pc 19) (some (.iconst 0, 20, 0, 0, 0, 0)) none)) (cond (Nat.beq pc 16) (some (.goto 4, 19, 20, 0, 0, 0)) none)) (cond (Nat.ble 12 pc) (cond (Nat.ble 15 pc) (cond (Nat.beq pc 15) (some (.iconst 1, 16, 0, 0, 0, 0)) none) (cond (Nat.beq pc 12) (some (.if_icmp .ge 7, 15, 19, 0, 0, 0)) none)) (cond (Nat.beq pc 9) (some (.getfield 24, 12, 3, 3, 166, 0)) none))) (cond (Nat.ble 4 pc) (cond (Nat.ble 5 pc) (cond (Nat.ble 6 pc) (cond (Nat.beq pc 6) (some (.getfield 14, 9, 2, 0, 198, 0)) none) (cond (Nat.beq pc 5) (some (.aload_n 0, 6, 0, 0, 0, 0)) none)) (cond (Nat.beq pc 4) (some (.iload_n 1, 5, 0, 0, 0, 0)) none)) (cond (Nat.ble 1 pc) (cond (Nat.beq pc 1) (some (.ifCond .lt 18, 4, 19, 0, 0, 0)) none) (cond (Nat.beq pc 0) (some (.iload_n 1, 1, 0, 0, 0, 0)) none))))
def rc_34 (pc : Nat) : Option RI := cond (Nat.ble 15 pc) none (cond (Nat.ble 6 pc) (cond (Nat.ble 10 pc) (cond (Nat.ble 11 pc) (cond (Nat.ble 14 pc) (cond (Nat.beq pc 14) (some (.return_, 15, 0, 0, 0, 0)) none) (cond (Nat.beq pc 11) (some (.invokevirtual 32, 14, 35, 0, 485, 0)) none)) (cond (Nat.beq pc 10) (some (.iload_n 3, 11, 0, 0, 0, 0)) none)) (cond (Nat.ble 7 pc) (cond (Nat.beq pc 7) (some (.invokevirtual 28, 10, 28, 1, 484, 0)) none) (cond (Nat.beq pc 6) (some (.iload_n 2, 7, 0, 0, 0, 0)) none))) (cond (Nat.ble 2 pc) (cond (Nat.ble 5 pc) (cond (Nat.beq pc 5) (some (.aload_n 1, 6, 0, 0, 0, 0)) none) (cond (Nat.beq pc 2) (some (.getfield 14, 5, 2, 0, 198, 0)) none)) (cond (Nat.ble 1 pc) (cond (Nat.beq pc 1) (some (.aload_n 0, 2, 0, 0, 0, 0)) none) (cond (Nat.beq pc 0) (some (.aload_n 0, 1, 0, 0, 0, 0)) none))))
def rc_35 (pc : Nat) : Option RI := cond (Nat.ble 16 pc) none (cond (Nat.ble 9 pc) (cond (Nat.ble 13 pc) (cond (Nat.ble 14 pc) (cond (Nat.ble 15 pc) (cond (Nat.beq pc 15) (some (.return_, 16, 0, 0, 0, 0)) none) (cond (Nat.beq pc 14) (some (.iastore, 15, 0, 0, 0, 0)) none)) (cond (Nat.beq pc 13) (some (.iload_n 2, 14, 0, 0, 0, 0)) none)) (cond (Nat.ble 12 pc) (cond (Nat.beq pc 12) (some (.iload_n 1, 13, 0, 0, 0, 0)) none) (cond (Nat.beq pc 9) (some (.getfield 20, 12, 2, 1, 201, 0)) none))) (cond (Nat.ble 2 pc) (cond (Nat.ble 5 pc) (cond (Nat.ble 8 pc) (cond (Nat.beq pc 8) (some (.aload_n 0, 9, 0, 0, 0, 0)) none) (cond (Nat.beq pc 5) (some (.ifCond .eq 10, 8, 15, 0, 0, 0)) none)) (cond (Nat.beq pc 2) (some (.invokevirtual 36, 5, 33, 0, 489, 0)) none)) (cond (Nat.ble 1 pc) (cond (Nat.beq pc 1) (some (.iload_n 1, 2, 0, 0, 0, 0)) none) (cond (Nat.beq pc 0) (some (.aload_n 0, 1, 0, 0, 0, 0)) none))))
def rc_36 (pc : Nat) : Option RI := cond (Nat.ble 87 pc) none (cond (Nat.ble 44 pc) (cond (Nat.ble 65 pc) (cond (Nat.ble 75 pc) (cond (Nat.ble 82 pc) (cond (Nat.ble 85 pc) (cond (Nat.ble 86 pc) (cond (Nat.beq pc 86) (some (.ireturn, 87, 0, 0, 0, 0)) none) (cond (Nat.beq pc 85) (some (.iconst 0, 86, 0, 0, 0, 0)) none)) (cond (Nat.beq pc 82) (some (.goto 4, 85, 86, 0, 0, 0)) none)) (cond (Nat.ble 78 pc) (cond (Nat.ble 81 pc) (cond (Nat.beq pc 81) (some (.iconst 1, 82, 0, 0, 0, 0)) none) (cond (Nat.beq pc 78) (some (.ifCond .ne 7, 81, 85, 0, 0, 0)) none)) (cond (Nat.beq pc 75) (some (.getfield 71, 78, 9, 9, 366, 0)) none))) (cond (Nat.ble 70 pc) (cond (Nat.ble 71 pc) (cond (Nat.ble 74 pc) (cond (Nat.beq pc 74) (some (.aload_n 0, 75, 0, 0, 0, 0)) none) (cond (Nat.beq pc 71) (some (.putfield 71, 74, 9, 9, 366, 0)) none)) (cond (Nat.beq pc 70) (some (.iconst 0, 71, 0, 0, 0, 0)) none)) (cond (Nat.ble 66 pc) (cond (Nat.ble 69 pc) (cond (Nat.beq pc 69) (some (.aload_n 0, 70, 0, 0, 0, 0)) none) (cond (Nat.beq pc 66) (some (.invokevirtual 130, 69, 35, 1, 502, 0)) none)) (cond (Nat.beq pc 65) (some (.iload_n 2, 66, 0, 0, 0, 0)) none)))) (cond (Nat.ble 53 pc) (cond (Nat.ble 60 pc) (cond (Nat.ble 61 pc) (cond (Nat.ble 64 pc) (cond (Nat.beq pc 64) (some (.iload_n 1, 65, 0, 0, 0, 0)) none) (cond (Nat.beq pc 61) (some (.getfield 26, 64, 9, 2, 359, 0)) none)) (cond (Nat.beq pc 60) (some (.aload_n 0, 61, 0, 0, 0, 0)) none)) (cond (Nat.ble 54 pc) (cond (Nat.ble 57 pc) (cond (Nat.beq pc 57) (some (.goto 17, 60, 74, 0, 0, 0)) none) (cond (Nat.beq pc 54) (some (.putfield 71, 57, 9, 9, 366, 0)) none)) (cond (Nat.beq pc 53) (some (.iconst 5, 54, 0, 0, 0, 0)) none))) (cond (Nat.ble 46 pc) (cond (Nat.ble 49 pc) (cond (Nat.ble 52 pc) (cond (Nat.beq pc 52) (some (.aload_n 0, 53, 0, 0, 0, 0)) none) (cond (Nat.beq pc 49) (some (.ifCond .eq 11, 52, 60, 0, 0, 0)) none)) (cond (Nat.beq pc 46) (some (.invokevirtual 127, 49, 37, 1, 494, 0)) none)) (cond (Nat.ble 45 pc) (cond (Nat.beq pc 45) (some (.iload_n 1, 46, 0, 0, 0, 0)) none) (cond (Nat.beq pc 44) (some (.iload_n 2, 45, 0, 0, 0, 0)) none))))) (cond (Nat.ble 21 pc) (cond (Nat.ble 32 pc) (cond (Nat.ble 37 pc) (cond (Nat.ble 40 pc) (cond (Nat.ble 41 pc) (cond (Nat.beq pc 41) (some (.getfield 26, 44, 9, 2, 359, 0)) none) (cond (Nat.beq pc 40) (some (.aload_n 0, 41, 0, 0, 0, 0)) none)) (cond (Nat.beq pc 37) (some (.if_icmp .eq 15, 40, 52, 0, 0, 0)) none)) (cond (Nat.ble 35 pc) (cond (Nat.ble 36 pc) (cond (Nat.beq pc 36) (some (.iload_n 1, 37, 0, 0, 0, 0)) none) (cond (Nat.beq pc 35) (some (.iload_n 2, 36, 0, 0, 0, 0)) none)) (cond (Nat.beq pc 32) (some (.goto 42, 35, 74, 0, 0, 0)) none))) (cond (Nat.ble 27 pc) (cond (Nat.ble 28 pc) (cond (Nat.ble 29 pc) (cond (Nat.beq pc 29) (some (.putfield 71, 32, 9, 9, 366, 0)) none) (cond (Nat.beq pc 28) (some (.iconst 1, 29, 0, 0, 0, 0)) none)) (cond (Nat.beq pc 27) (some (.aload_n 0, 28, 0, 0, 0, 0)) none)) (cond (Nat.ble 24 pc) (cond (Nat.beq pc 24) (some (.ifCond .ne 11, 27, 35, 0, 0, 0)) none) (cond (Nat.beq pc 21) (some (.invokevirtual 120, 24, 33, 1, 476, 0)) none)))) (cond (Nat.ble 11 pc) (cond (Nat.ble 16 pc) (cond (Nat.ble 17 pc) (cond (Nat.ble 20 pc) (cond (Nat.beq pc 20) (some (.iload_n 2, 21, 0, 0, 0, 0)) none) (cond (Nat.beq pc 17) (some (.getfield 26, 20, 9, 2, 359, 0)) none)) (cond (Nat.beq pc 16) (some (.aload_n 0, 17, 0, 0, 0, 0)) none)) (cond (Nat.ble 12 pc) (cond (Nat.ble 13 pc) (cond (Nat.beq pc 13) (some (.if_icmp .eq 22, 16, 35, 0, 0, 0)) none) (cond (Nat.beq pc 12) (some (.iconst (-1), 13, 0, 0, 0, 0)) none)) (cond (Nat.beq pc 11) (some (.iload_n 2, 12, 0, 0, 0, 0)) none))) (cond (Nat.ble 4 pc) (cond (Nat.ble 5 pc) (cond (Nat.ble 8 pc) (cond (Nat.beq pc 8) (some (.ifCond .eq 19, 11, 27, 0, 0, 0)) none) (cond (Nat.beq pc 5) (some (.invokevirtual 120, 8, 33, 1, 476, 0)) none)) (cond (Nat.beq pc 4) (some (.iload_n 1, 5, 0, 0, 0, 0)) none)) (cond (Nat.ble 1 pc) (cond (Nat.beq pc 1) (some (.getfield 26, 4, 9, 2, 359, 0)) none) (cond (Nat.beq pc 0) (some (.aload_n 0, 1, 0, 0, 0, 0)) none))))))
def rc_37 (pc : Nat) : Option RI := cond (Nat.ble 42 pc) none (cond (Nat.ble 21 pc) (cond (Nat.ble 29 pc) (cond (Nat.ble 34 pc) (cond (Nat.ble 40 pc) (cond (Nat.ble 41 pc) (cond (Nat.beq pc 41) (some (.ireturn, 42, 0, 0, 0, 0)) none) (cond (Nat.beq pc 40) (some (.iconst 0, 41, 0, 0, 0, 0)) none)) (cond (Nat.ble 37 pc) (cond (Nat.beq pc 37) (some (.goto (-28), 40, 9, 0, 0, 0)) none) (cond (Nat.beq pc 34) (some (.iinc 4 1, 37, 0, 0, 0, 0)) none))) (cond (Nat.ble 30 pc) (cond (Nat.ble 33 pc) (cond (Nat.beq pc 33) (some (.istore_n 3, 34, 0, 0, 0, 0)) none) (cond (Nat.beq pc 30) (some (.invokevirtual 40, 33, 38, 0, 498, 0)) none)) (cond (Nat.beq pc 29) (some (.iload_n 3, 30, 0, 0, 0, 0)) none))) (cond (Nat.ble 26 pc) (cond (Nat.ble 27 pc) (cond (Nat.ble 28 pc) (cond (Nat.beq pc 28) (some (.aload_n 0, 29, 0, 0, 0, 0)) none) (cond (Nat.beq pc 27) (some (.ireturn, 28, 0, 0, 0, 0)) none)) (cond (Nat.beq pc 26) (some (.iconst 1, 27, 0, 0, 0, 0)) none)) (cond (Nat.ble 22 pc) (cond (Nat.ble 23 pc) (cond (Nat.beq pc 23) (some (.if_icmp .ne 5, 26, 28, 0, 0, 0)) none) (cond (Nat.beq pc 22) (some (.iload_n 2, 23, 0, 0, 0, 0)) none)) (cond (Nat.beq pc 21) (some (.iload_n 3, 22, 0, 0, 0, 0)) none)))) (cond (Nat.ble 9 pc) (cond (Nat.ble 16 pc) (cond (Nat.ble 17 pc) (cond (Nat.ble 18 pc) (cond (Nat.beq pc 18) (some (.if_icmp .eq 22, 21, 40, 0, 0, 0)) none) (cond (Nat.beq pc 17) (some (.iconst (-1), 18, 0, 0, 0, 0)) none)) (cond (Nat.beq pc 16) (some (.iload_n 3, 17, 0, 0, 0, 0)) none)) (cond (Nat.ble 11 pc) (cond (Nat.ble 13 pc) (cond (Nat.beq pc 13) (some (.if_icmp .ge 27, 16, 40, 0, 0, 0)) none) (cond (Nat.beq pc 11) (some (.bipush 16, 13, 0, 0, 0, 0)) none)) (cond (Nat.beq pc 9) (some (.iload 4, 11, 0, 0, 0, 0)) none))) (cond (Nat.ble 5 pc) (cond (Nat.ble 6 pc) (cond (Nat.ble 7 pc) (cond (Nat.beq pc 7) (some (.istore 4, 9, 0, 0, 0, 0)) none) (cond (Nat.beq pc 6) (some (.iconst 0, 7, 0, 0, 0, 0)) none)) (cond (Nat.beq pc 5) (some (.istore_n 3, 6, 0, 0, 0, 0)) none)) (cond (Nat.ble 1 pc) (cond (Nat.ble 2 pc) (cond (Nat.beq pc 2) (some (.invokevirtual 40, 5, 38, 0, 498, 0)) none) (cond (Nat.beq pc 1) (some (.iload_n 1, 2, 0, 0, 0, 0)) none)) (cond (Nat.beq pc 0) (some (.aload_n 0, 1, 0, 0, 0, 0)) none)))))
def rc_38 (pc : Nat) : Option RI := cond (Nat.ble 19 pc) none (cond (Nat.ble 9 pc) (cond (Nat.ble 14 pc) (cond (Nat.ble 17 pc) (cond (Nat.ble 18 pc) (cond (Nat.beq pc 18) (some (.ireturn, 19, 0, 0, 0, 0)) none) (cond (Nat.beq pc 17) (some (.iconst (-1), 18, 0, 0, 0, 0)) none)) (cond (Nat.beq pc 14) (some (.goto 4, 17, 18, 0, 0, 0)) none)) (cond (Nat.ble 12 pc) (cond (Nat.ble 13 pc) (cond (Nat.beq pc 13) (some (.iaload, 14, 0, 0, 0, 0)) none) (cond (Nat.beq pc 12) (some (.iload_n 1, 13, 0, 0, 0, 0)) none)) (cond (Nat.beq pc 9) (some (.getfield 20, 12, 2, 1, 201, 0)) none))) (cond (Nat.ble 2 pc) (cond (Nat.ble 5 pc) (cond (Nat.ble 8 pc) (cond (Nat.beq pc 8) (some (.aload_n 0, 9, 0, 0, 0, 0)) none) (cond (Nat.beq pc 5) (some (.ifCond .eq 12, 8, 17, 0, 0, 0)) none)) (cond (Nat.beq pc 2) (some (.invokevirtual 36, 5, 33, 0, 489, 0)) none)) (cond (Nat.ble 1 pc) (cond (Nat.beq pc 1) (some (.iload_n 1, 2, 0, 0, 0, 0)) none) (cond (Nat.beq pc 0) (some (.aload_n 0, 1, 0, 0, 0, 0)) none))))
def rc_39 (pc : Nat) : Option RI := cond (Nat.ble 47 pc) none (cond (Nat.ble 25 pc) (cond (Nat.ble 36 pc) (cond (Nat.ble 41 pc) (cond (Nat.ble 43 pc) (cond (Nat.ble 46 pc) (cond (Nat.beq pc 46) (some (.ireturn, 47, 0, 0, 0, 0)) none) (cond (Nat.beq pc 43) (some (.invokevirtual 137, 46, 57, 0, 606, 0)) none)) (cond (Nat.ble 42 pc) (cond (Nat.beq pc 42) (some (.iconst (-1), 43, 0, 0, 0, 0)) none) (cond (Nat.beq pc 41) (some (.iload_n 1, 42, 0, 0, 0, 0)) none))) (cond (Nat.ble 37 pc) (cond (Nat.ble 38 pc) (cond (Nat.beq pc 38) (some (.invokevirtual 134, 41, 40, 1, 507, 0)) none) (cond (Nat.beq pc 37) (some (.iload_n 1, 38, 0, 0, 0, 0)) none)) (cond (Nat.beq pc 36) (some (.iload_n 2, 37, 0, 0, 0, 0)) none))) (cond (Nat.ble 30 pc) (cond (Nat.ble 32 pc) (cond (Nat.ble 33 pc) (cond (Nat.beq pc 33) (some (.getfield 42, 36, 9, 4, 361, 0)) none) (cond (Nat.beq pc 32) (some (.aload_n 0, 33, 0, 0, 0, 0)) none)) (cond (Nat.ble 31 pc) (cond (Nat.beq pc 31) (some (.aload_n 0, 32, 0, 0, 0, 0)) none) (cond (Nat.beq pc 30) (some (.ireturn, 31, 0, 0, 0, 0)) none))) (cond (Nat.ble 26 pc) (cond (Nat.ble 27 pc) (cond (Nat.beq pc 27) (some (.invokevirtual 74, 30, 12, 0, 392, 0)) none) (cond (Nat.beq pc 26) (some (.iconst 2, 27, 0, 0, 0, 0)) none)) (cond (Nat.beq pc 25) (some (.aload_n 0, 26, 0, 0, 0, 0)) none)))) (cond (Nat.ble 10 pc) (cond (Nat.ble 15 pc) (cond (Nat.ble 19 pc) (cond (Nat.ble 22 pc) (cond (Nat.beq pc 22) (some (.ifCond .ne 9, 25, 31, 0, 0, 0)) none) (cond (Nat.beq pc 19) (some (.invokevirtual 95, 22, 19, 1, 421, 0)) none)) (cond (Nat.ble 18 pc) (cond (Nat.beq pc 18) (some (.iload_n 2, 19, 0, 0, 0, 0)) none) (cond (Nat.beq pc 15) (some (.getfield 12, 18, 9, 0, 357, 0)) none))) (cond (Nat.ble 13 pc) (cond (Nat.ble 14 pc) (cond (Nat.beq pc 14) (some (.aload_n 0, 15, 0, 0, 0, 0)) none) (cond (Nat.beq pc 13) (some (.ireturn, 14, 0, 0, 0, 0)) none)) (cond (Nat.beq pc 10) (some (.invokevirtual 74, 13, 12, 0, 392, 0)) none))) (cond (Nat.ble 5 pc) (cond (Nat.ble 8 pc) (cond (Nat.ble 9 pc) (cond (Nat.beq pc 9) (some (.iconst 1, 10, 0, 0, 0, 0)) none) (cond (Nat.beq pc 8) (some (.aload_n 0, 9, 0, 0, 0, 0)) none)) (cond (Nat.beq pc 5) (some (.ifCond .ne 9, 8, 14, 0, 0, 0)) none)) (cond (Nat.ble 1 pc) (cond (Nat.ble 2 pc) (cond (Nat.beq pc 2) (some (.invokevirtual 92, 5, 18, 0, 417, 0)) none) (cond (Nat.beq pc 1) (some (.iload_n 1, 2, 0, 0, 0, 0)) none)) (cond (Nat.beq pc 0) (some (.aload_n 0, 1, 0, 0, 0, 0)) none)))))
def rc_40 (pc : Nat) : Option RI := cond (Nat.ble 83 pc) none (cond (Nat.ble 40 pc) (cond (Nat.ble 61 pc) (cond (Nat.ble 71 pc) (cond (Nat.ble 78 pc) (cond (Nat.ble 79 pc) (cond (Nat.ble 82 pc) (cond (Nat.beq pc 82) (some (.ireturn, 83, 0, 0, 0, 0)) none) (cond (Nat.beq pc 79) (some (.invokevirtual 59, 82, 51, 0, 575, 0)) none)) (cond (Nat.beq pc 78) (some (.iconst 4, 79, 0, 0, 0, 0)) none)) (cond (Nat.ble 74 pc) (cond (Nat.ble 77 pc) (cond (Nat.beq pc 77) (some (.aload_n 0, 78, 0, 0, 0, 0)) none) (cond (Nat.beq pc 74) (some (.goto (-48), 77, 26, 0, 0, 0)) none)) (cond (Nat.beq pc 71) (some (.iinc 3 1, 74, 0, 0, 0, 0)) none))) (cond (Nat.ble 66 pc) (cond (Nat.ble 67 pc) (cond (Nat.ble 68 pc) (cond (Nat.beq pc 68) (some (.invokevirtual 50, 71, 41, 0, 511, 0)) none) (cond (Nat.beq pc 67) (some (.aload_n 0, 68, 0, 0, 0, 0)) none)) (cond (Nat.beq pc 66) (some (.ireturn, 67, 0, 0, 0, 0)) none)) (cond (Nat.ble 62 pc) (cond (Nat.ble 63 pc) (cond (Nat.beq pc 63) (some (.invokevirtual 59, 66, 51, 0, 575, 0)) none) (cond (Nat.beq pc 62) (some (.iconst 1, 63, 0, 0, 0, 0)) none)) (cond (Nat.beq pc 61) (some (.aload_n 0, 62, 0, 0, 0, 0)) none)))) (cond (Nat.ble 51 pc) (cond (Nat.ble 54 pc) (cond (Nat.ble 57 pc) (cond (Nat.ble 58 pc) (cond (Nat.beq pc 58) (some (.if_icmp .eq 9, 61, 67, 0, 0, 0)) none) (cond (Nat.beq pc 57) (some (.iconst 5, 58, 0, 0, 0, 0)) none)) (cond (Nat.beq pc 54) (some (.getfield 32, 57, 5, 9, 252, 0)) none)) (cond (Nat.ble 52 pc) (cond (Nat.ble 53 pc) (cond (Nat.beq pc 53) (some (.aload_n 0, 54, 0, 0, 0, 0)) none) (cond (Nat.beq pc 52) (some (.ireturn, 53, 0, 0, 0, 0)) none)) (cond (Nat.beq pc 51) (some (.iconst 1, 52, 0, 0, 0, 0)) none))) (cond (Nat.ble 43 pc) (cond (Nat.ble 46 pc) (cond (Nat.ble 48 pc) (cond (Nat.beq pc 48) (some (.if_icmp .ne 5, 51, 53, 0, 0, 0)) none) (cond (Nat.beq pc 46) (some (.bipush 6, 48, 0, 0, 0, 0)) none)) (cond (Nat.beq pc 43) (some (.getfield 32, 46, 5, 9, 252, 0)) none)) (cond (Nat.ble 41 pc) (cond (Nat.ble 42 pc) (cond (Nat.beq pc 42) (some (.aload_n 0, 43, 0, 0, 0, 0)) none) (cond (Nat.beq pc 41) (some (.ireturn, 42, 0, 0, 0, 0)) none)) (cond (Nat.beq pc 40) (some (.iconst 0, 41, 0, 0, 0, 0)) none))))) (cond (Nat.ble 17 pc) (cond (Nat.ble 27 pc) (cond (Nat.ble 33 pc) (cond (Nat.ble 34 pc) (cond (Nat.ble 37 pc) (cond (Nat.beq pc 37) (some (.ifCond .ne 5, 40, 42, 0, 0, 0)) none) (cond (Nat.beq pc 34) (some (.invokevirtual 53, 37, 42, 0, 517, 0)) none)) (cond (Nat.beq pc 33) (some (.iload_n 2, 34, 0, 0, 0, 0)) none)) (cond (Nat.ble 29 pc) (cond (Nat.ble 32 pc) (cond (Nat.beq pc 32) (some (.aload_n 0, 33, 0, 0, 0, 0)) none) (cond (Nat.beq pc 29) (some (.if_icmp .gt 48, 32, 77, 0, 0, 0)) none)) (cond (Nat.beq pc 27) (some (.bipush 20, 29, 0, 0, 0, 0)) none))) (cond (Nat.ble 24 pc) (cond (Nat.ble 25 pc) (cond (Nat.ble 26 pc) (cond (Nat.beq pc 26) (some (.iload_n 3, 27, 0, 0, 0, 0)) none) (cond (Nat.beq pc 25) (some (.istore_n 3, 26, 0, 0, 0, 0)) none)) (cond (Nat.beq pc 24) (some (.iconst 0, 25, 0, 0, 0, 0)) none)) (cond (Nat.ble 20 pc) (cond (Nat.ble 21 pc) (cond (Nat.beq pc 21) (some (.invokevirtual 50, 24, 41, 0, 511, 0)) none) (cond (Nat.beq pc 20) (some (.aload_n 0, 21, 0, 0, 0, 0)) none)) (cond (Nat.beq pc 17) (some (.putfield 35, 20, 5, 10, 253, 0)) none)))) (cond (Nat.ble 7 pc) (cond (Nat.ble 12 pc) (cond (Nat.ble 15 pc) (cond (Nat.ble 16 pc) (cond (Nat.beq pc 16) (some (.iload_n 1, 17, 0, 0, 0, 0)) none) (cond (Nat.beq pc 15) (some (.aload_n 0, 16, 0, 0, 0, 0)) none)) (cond (Nat.beq pc 12) (some (.putfield 29, 15, 5, 8, 251, 0)) none)) (cond (Nat.ble 10 pc) (cond (Nat.ble 11 pc) (cond (Nat.beq pc 11) (some (.iconst 0, 12, 0, 0, 0, 0)) none) (cond (Nat.beq pc 10) (some (.aload_n 0, 11, 0, 0, 0, 0)) none)) (cond (Nat.beq pc 7) (some (.putfield 20, 10, 5, 5, 246, 0)) none))) (cond (Nat.ble 2 pc) (cond (Nat.ble 5 pc) (cond (Nat.ble 6 pc) (cond (Nat.beq pc 6) (some (.iconst 0, 7, 0, 0, 0, 0)) none) (cond (Nat.beq pc 5) (some (.aload_n 0, 6, 0, 0, 0, 0)) none)) (cond (Nat.beq pc 2) (some (.putfield 16, 5, 5, 4, 244, 0)) none)) (cond (Nat.ble 1 pc) (cond (Nat.beq pc 1) (some (.iconst 0, 2, 0, 0, 0, 0)) none) (cond (Nat.beq pc 0) (some (.aload_n 0, 1, 0, 0, 0, 0)) none))))))
def rc_41 (pc : Nat) : Option RI := cond (Nat.ble 187 pc) none (cond (Nat.ble 95 pc) (cond (Nat.ble 142 pc) (cond (Nat.ble 167 pc) (cond (Nat.ble 177 pc) (cond (Nat.ble 182 pc) (cond (Nat.ble 183 pc) (cond (Nat.ble 186 pc) (cond (Nat.beq pc 186) (some (.return_, 187, 0, 0, 0, 0)) none) (cond (Nat.beq pc 183) (some (.putfield 32, 186, 5, 9, 252, 0)) none)) (cond (Nat.beq pc 182) (some (.iconst 0, 183, 0, 0, 0, 0)) none)) (cond (Nat.ble 178 pc) (cond (Nat.ble 181 pc) (cond (Nat.beq pc 181) (some (.aload_n 0, 182, 0, 0, 0, 0)) none) (cond (Nat.beq pc 178) (some (.if_icmp .le 8, 181, 186, 0, 0, 0)) none)) (cond (Nat.beq pc 177) (some (.iload_n 1, 178, 0, 0, 0, 0)) none))) (cond (Nat.ble 172 pc) (cond (Nat.ble 173 pc) (cond (Nat.ble 176 pc) (cond (Nat.beq pc 176) (some (.isub, 177, 0, 0, 0, 0)) none) (cond (Nat.beq pc 173) (some (.getfield 26, 176, 5, 7, 250, 0)) none)) (cond (Nat.beq pc 172) (some (.aload_n 0, 173, 0, 0, 0, 0)) none)) (cond (Nat.ble 168 pc) (cond (Nat.ble 169 pc) (cond (Nat.beq pc 169) (some (.getfield 29, 172, 5, 8, 251, 0)) none) (cond (Nat.beq pc 168) (some (.aload_n 0, 169, 0, 0, 0, 0)) none)) (cond (Nat.beq pc 167) (some (.istore_n 1, 168, 0, 0, 0, 0)) none)))) (cond (Nat.ble 154 pc) (cond (Nat.ble 161 pc) (cond (Nat.ble 163 pc) (cond (Nat.ble 166 pc) (cond (Nat.beq pc 166) (some (.iconst 3, 167, 0, 0, 0, 0)) none) (cond (Nat.beq pc 163) (some (.goto 4, 166, 167, 0, 0, 0)) none)) (cond (Nat.beq pc 161) (some (.bipush 10, 163, 0, 0, 0, 0)) none)) (cond (Nat.ble 157 pc) (cond (Nat.ble 158 pc) (cond (Nat.beq pc 158) (some (.if_icmp .ne 8, 161, 166, 0, 0, 0)) none) (cond (Nat.beq pc 157) (some (.iconst 2, 158, 0, 0, 0, 0)) none)) (cond (Nat.beq pc 154) (some (.getfield 32, 157, 5, 9, 252, 0)) none))) (cond (Nat.ble 147 pc) (cond (Nat.ble 150 pc) (cond (Nat.ble 153 pc) (cond (Nat.beq pc 153) (some (.aload_n 0, 154, 0, 0, 0, 0)) none) (cond (Nat.beq pc 150) (some (.goto (-39), 153, 111, 0, 0, 0)) none)) (cond (Nat.beq pc 147) (some (.putfield 29, 150, 5, 8, 251, 0)) none)) (cond (Nat.ble 145 pc) (cond (Nat.ble 146 pc) (cond (Nat.beq pc 146) (some (.iadd, 147, 0, 0, 0, 0)) none) (cond (Nat.beq pc 145) (some (.iconst 1, 146, 0, 0, 0, 0)) none)) (cond (Nat.beq pc 142) (some (.getfield 29, 145, 5, 8, 251, 0)) none))))) (cond (Nat.ble 116 pc) (cond (Nat.ble 130 pc) (cond (Nat.ble 137 pc) (cond (Nat.ble 140 pc) (cond (Nat.ble 141 pc) (cond (Nat.beq pc 141) (some (.dup, 142, 0, 0, 0, 0)) none) (cond (Nat.beq pc 140) (some (.aload_n 0, 141, 0, 0, 0, 0)) none)) (cond (Nat.beq pc 137) (some (.if_icmp .ne 16, 140, 153, 0, 0, 0)) none)) (cond (Nat.ble 133 pc) (cond (Nat.ble 134 pc) (cond (Nat.beq pc 134) (some (.getfield 32, 137, 5, 9, 252, 0)) none) (cond (Nat.beq pc 133) (some (.aload_n 0, 134, 0, 0, 0, 0)) none)) (cond (Nat.beq pc 130) (some (.invokevirtual 104, 133, 23, 1, 515, 0)) none))) (cond (Nat.ble 123 pc) (cond (Nat.ble 126 pc) (cond (Nat.ble 127 pc) (cond (Nat.beq pc 127) (some (.getfield 29, 130, 5, 8, 251, 0)) none) (cond (Nat.beq pc 126) (some (.aload_n 0, 127, 0, 0, 0, 0)) none)) (cond (Nat.beq pc 123) (some (.getfield 38, 126, 5, 0, 239, 0)) none)) (cond (Nat.ble 119 pc) (cond (Nat.ble 122 pc) (cond (Nat.beq pc 122) (some (.aload_n 0, 123, 0, 0, 0, 0)) none) (cond (Nat.beq pc 119) (some (.if_icmp .ge 34, 122, 153, 0, 0, 0)) none)) (cond (Nat.beq pc 116) (some (.getfield 35, 119, 5, 10, 253, 0)) none)))) (cond (Nat.ble 104 pc) (cond (Nat.ble 111 pc) (cond (Nat.ble 112 pc) (cond (Nat.ble 115 pc) (cond (Nat.beq pc 115) (some (.aload_n 0, 116, 0, 0, 0, 0)) none) (cond (Nat.beq pc 112) (some (.getfield 29, 115, 5, 8, 251, 0)) none)) (cond (Nat.beq pc 111) (some (.aload_n 0, 112, 0, 0, 0, 0)) none)) (cond (Nat.ble 107 pc) (cond (Nat.ble 108 pc) (cond (Nat.beq pc 108) (some (.if_icmp .ne 78, 111, 186, 0, 0, 0)) none) (cond (Nat.beq pc 107) (some (.iconst 3, 108, 0, 0, 0, 0)) none)) (cond (Nat.beq pc 104) (some (.getfield 32, 107, 5, 9, 252, 0)) none))) (cond (Nat.ble 99 pc) (cond (Nat.ble 100 pc) (cond (Nat.ble 103 pc) (cond (Nat.beq pc 103) (some (.aload_n 0, 104, 0, 0, 0, 0)) none) (cond (Nat.beq pc 100) (some (.if_icmp .eq 11, 103, 111, 0, 0, 0)) none)) (cond (Nat.beq pc 99) (some (.iconst 2, 100, 0, 0, 0, 0)) none)) (cond (Nat.ble 96 pc) (cond (Nat.beq pc 96) (some (.getfield 32, 99, 5, 9, 252, 0)) none) (cond (Nat.beq pc 95) (some (.aload_n 0, 96, 0, 0, 0, 0)) none)))))) (cond (Nat.ble 47 pc) (cond (Nat.ble 70 pc) (cond (Nat.ble 83 pc) (cond (Nat.ble 86 pc) (cond (Nat.ble 89 pc) (cond (Nat.ble 92 pc) (cond (Nat.beq pc 92) (some (.putfield 29, 95, 5, 8, 251, 0)) none) (cond (Nat.beq pc 89) (some (.invokestatic 107, 92, 4, 0, 516, 0)) none)) (cond (Nat.beq pc 86) (some (.getfield 35, 89, 5, 10, 253, 0)) none)) (cond (Nat.ble 84 pc) (cond (Nat.ble 85 pc) (cond (Nat.beq pc 85) (some (.aload_n 0, 86, 0, 0, 0, 0)) none) (cond (Nat.beq pc 84) (some (.iadd, 85, 0, 0, 0, 0)) none)) (cond (Nat.beq pc 83) (some (.iconst 1, 84, 0, 0, 0, 0)) none))) (cond (Nat.ble 78 pc) (cond (Nat.ble 79 pc) (cond (Nat.ble 80 pc) (cond (Nat.beq pc 80) (some (.getfield 26, 83, 5, 7, 250, 0)) none) (cond (Nat.beq pc 79) (some (.aload_n 0, 80, 0, 0, 0, 0)) none)) (cond (Nat.beq pc 78) (some (.aload_n 0, 79, 0, 0, 0, 0)) none)) (cond (Nat.ble 73 pc) (cond (Nat.ble 75 pc) (cond (Nat.beq pc 75) (some (.putfield 32, 78, 5, 9, 252, 0)) none) (cond (Nat.beq pc 73) (some (.bipush 6, 75, 0, 0, 0, 0)) none)) (cond (Nat.beq pc 70) (some (.goto 5, 73, 75, 0, 0, 0)) none)))) (cond (Nat.ble 56 pc) (cond (Nat.ble 63 pc) (cond (Nat.ble 64 pc) (cond (Nat.ble 67 pc) (cond (Nat.beq pc 67) (some (.invokevirtual 104, 70, 23, 1, 515, 0)) none) (cond (Nat.beq pc 64) (some (.getfield 26, 67, 5, 7, 250, 0)) none)) (cond (Nat.beq pc 63) (some (.aload_n 0, 64, 0, 0, 0, 0)) none)) (cond (Nat.ble 59 pc) (cond (Nat.ble 60 pc) (cond (Nat.beq pc 60) (some (.getfield 38, 63, 5, 0, 239, 0)) none) (cond (Nat.beq pc 59) (some (.aload_n 0, 60, 0, 0, 0, 0)) none)) (cond (Nat.beq pc 56) (some (.if_icmp .ge 17, 59, 73, 0, 0, 0)) none))) (cond (Nat.ble 49 pc) (cond (Nat.ble 52 pc) (cond (Nat.ble 53 pc) (cond (Nat.beq pc 53) (some (.getfield 35, 56, 5, 10, 253, 0)) none) (cond (Nat.beq pc 52) (some (.aload_n 0, 53, 0, 0, 0, 0)) none)) (cond (Nat.beq pc 49) (some (.getfield 26, 52, 5, 7, 250, 0)) none)) (cond (Nat.ble 48 pc) (cond (Nat.beq pc 48) (some (.aload_n 0, 49, 0, 0, 0, 0)) none) (cond (Nat.beq pc 47) (some (.aload_n 0, 48, 0, 0, 0, 0)) none))))) (cond (Nat.ble 23 pc) (cond (Nat.ble 35 pc) (cond (Nat.ble 40 pc) (cond (Nat.ble 41 pc) (cond (Nat.ble 44 pc) (cond (Nat.beq pc 44) (some (.goto (-36), 47, 8, 0, 0, 0)) none) (cond (Nat.beq pc 41) (some (.putfield 26, 44, 5, 7, 250, 0)) none)) (cond (Nat.beq pc 40) (some (.iadd, 41, 0, 0, 0, 0)) none)) (cond (Nat.ble 36 pc) (cond (Nat.ble 39 pc) (cond (Nat.beq pc 39) (some (.iconst 1, 40, 0, 0, 0, 0)) none) (cond (Nat.beq pc 36) (some (.getfield 26, 39, 5, 7, 250, 0)) none)) (cond (Nat.beq pc 35) (some (.dup, 36, 0, 0, 0, 0)) none))) (cond (Nat.ble 30 pc) (cond (Nat.ble 31 pc) (cond (Nat.ble 34 pc) (cond (Nat.beq pc 34) (some (.aload_n 0, 35, 0, 0, 0, 0)) none) (cond (Nat.beq pc 31) (some (.if_icmp .ne 16, 34, 47, 0, 0, 0)) none)) (cond (Nat.beq pc 30) (some (.iconst 1, 31, 0, 0, 0, 0)) none)) (cond (Nat.ble 24 pc) (cond (Nat.ble 27 pc) (cond (Nat.beq pc 27) (some (.invokevirtual 104, 30, 23, 1, 515, 0)) none) (cond (Nat.beq pc 24) (some (.getfield 26, 27, 5, 7, 250, 0)) none)) (cond (Nat.beq pc 23) (some (.aload_n 0, 24, 0, 0, 0, 0)) none)))) (cond (Nat.ble 9 pc) (cond (Nat.ble 16 pc) (cond (Nat.ble 19 pc) (cond (Nat.ble 20 pc) (cond (Nat.beq pc 20) (some (.getfield 38, 23, 5, 0, 239, 0)) none) (cond (Nat.beq pc 19) (some (.aload_n 0, 20, 0, 0, 0, 0)) none)) (cond (Nat.beq pc 16) (some (.if_icmp .ge 31, 19, 47, 0, 0, 0)) none)) (cond (Nat.ble 12 pc) (cond (Nat.ble 13 pc) (cond (Nat.beq pc 13) (some (.getfield 35, 16, 5, 10, 253, 0)) none) (cond (Nat.beq pc 12) (some (.aload_n 0, 13, 0, 0, 0, 0)) none)) (cond (Nat.beq pc 9) (some (.getfield 26, 12, 5, 7, 250, 0)) none))) (cond (Nat.ble 2 pc) (cond (Nat.ble 5 pc) (cond (Nat.ble 8 pc) (cond (Nat.beq pc 8) (some (.aload_n 0, 9, 0, 0, 0, 0)) none) (cond (Nat.beq pc 5) (some (.putfield 26, 8, 5, 7, 250, 0)) none)) (cond (Nat.beq pc 2) (some (.getfield 29, 5, 5, 8, 251, 0)) none)) (cond (Nat.ble 1 pc) (cond (Nat.beq pc 1) (some (.aload_n 0, 2, 0, 0, 0, 0)) none) (cond (Nat.beq pc 0) (some (.aload_n 0, 1, 0, 0, 0, 0)) none)))))))
def rc_42 (pc : Nat) : Option RI := cond (Nat.ble 185 pc) none (cond (Nat.ble 94 pc) (cond (Nat.ble 141 pc) (cond (Nat.ble 164 pc) (cond (Nat.ble 174 pc) (cond (Nat.ble 177 pc) (cond (Nat.ble 181 pc) (cond (Nat.ble 184 pc) (cond (Nat.beq pc 184) (some (.ireturn, 185, 0, 0, 0, 0)) none) (cond (Nat.beq pc 181) (some (.invokevirtual 93, 184, 54, 0, 589, 0)) none)) (cond (Nat.ble 180 pc) (cond (Nat.beq pc 180) (some (.aload_n 0, 181, 0, 0, 0, 0)) none) (cond (Nat.beq pc 177) (some (.invokevirtual 89, 180, 53, 0, 585, 0)) none))) (cond (Nat.ble 175 pc) (cond (Nat.ble 176 pc) (cond (Nat.beq pc 176) (some (.iload_n 3, 177, 0, 0, 0, 0)) none) (cond (Nat.beq pc 175) (some (.iload_n 2, 176, 0, 0, 0, 0)) none)) (cond (Nat.beq pc 174) (some (.aload_n 0, 175, 0, 0, 0, 0)) none))) (cond (Nat.ble 169 pc) (cond (Nat.ble 170 pc) (cond (Nat.ble 171 pc) (cond (Nat.beq pc 171) (some (.invokevirtual 50, 174, 41, 0, 511, 0)) none) (cond (Nat.beq pc 170) (some (.aload_n 0, 171, 0, 0, 0, 0)) none)) (cond (Nat.beq pc 169) (some (.ireturn, 170, 0, 0, 0, 0)) none)) (cond (Nat.ble 165 pc) (cond (Nat.ble 166 pc) (cond (Nat.beq pc 166) (some (.invokevirtual 59, 169, 51, 0, 575, 0)) none) (cond (Nat.beq pc 165) (some (.iconst 1, 166, 0, 0, 0, 0)) none)) (cond (Nat.beq pc 164) (some (.aload_n 0, 165, 0, 0, 0, 0)) none)))) (cond (Nat.ble 151 pc) (cond (Nat.ble 156 pc) (cond (Nat.ble 158 pc) (cond (Nat.ble 161 pc) (cond (Nat.beq pc 161) (some (.ifCond .ne 9, 164, 170, 0, 0, 0)) none) (cond (Nat.beq pc 158) (some (.invokevirtual 64, 161, 43, 0, 522, 0)) none)) (cond (Nat.beq pc 156) (some (.ldc 87, 158, 1, 1, 584, 0)) none)) (cond (Nat.ble 152 pc) (cond (Nat.ble 155 pc) (cond (Nat.beq pc 155) (some (.aload_n 0, 156, 0, 0, 0, 0)) none) (cond (Nat.beq pc 152) (some (.invokevirtual 50, 155, 41, 0, 511, 0)) none)) (cond (Nat.beq pc 151) (some (.aload_n 0, 152, 0, 0, 0, 0)) none))) (cond (Nat.ble 146 pc) (cond (Nat.ble 147 pc) (cond (Nat.ble 150 pc) (cond (Nat.beq pc 150) (some (.ireturn, 151, 0, 0, 0, 0)) none) (cond (Nat.beq pc 147) (some (.invokevirtual 59, 150, 51, 0, 575, 0)) none)) (cond (Nat.beq pc 146) (some (.iconst 2, 147, 0, 0, 0, 0)) none)) (cond (Nat.ble 142 pc) (cond (Nat.ble 145 pc) (cond (Nat.beq pc 145) (some (.aload_n 0, 146, 0, 0, 0, 0)) none) (cond (Nat.beq pc 142) (some (.if_icmp .ne 9, 145, 151, 0, 0, 0)) none)) (cond (Nat.beq pc 141) (some (.iconst (-1), 142, 0, 0, 0, 0)) none))))) (cond (Nat.ble 116 pc) (cond (Nat.ble 128 pc) (cond (Nat.ble 133 pc) (cond (Nat.ble 139 pc) (cond (Nat.ble 140 pc) (cond (Nat.beq pc 140) (some (.iload_n 3, 141, 0, 0, 0, 0)) none) (cond (Nat.beq pc 139) (some (.istore_n 3, 140, 0, 0, 0, 0)) none)) (cond (Nat.ble 136 pc) (cond (Nat.beq pc 136) (some (.invokevirtual 74, 139, 25, 1, 579, 0)) none) (cond (Nat.beq pc 133) (some (.getfield 29, 136, 5, 8, 251, 0)) none))) (cond (Nat.ble 129 pc) (cond (Nat.ble 132 pc) (cond (Nat.beq pc 132) (some (.aload_n 0, 133, 0, 0, 0, 0)) none) (cond (Nat.beq pc 129) (some (.getfield 26, 132, 5, 7, 250, 0)) none)) (cond (Nat.beq pc 128) (some (.aload_n 0, 129, 0, 0, 0, 0)) none))) (cond (Nat.ble 121 pc) (cond (Nat.ble 124 pc) (cond (Nat.ble 125 pc) (cond (Nat.beq pc 125) (some (.getfield 38, 128, 5, 0, 239, 0)) none) (cond (Nat.beq pc 124) (some (.aload_n 0, 125, 0, 0, 0, 0)) none)) (cond (Nat.beq pc 121) (some (.getfield 84, 124, 2, 0, 199, 0)) none)) (cond (Nat.ble 117 pc) (cond (Nat.ble 118 pc) (cond (Nat.beq pc 118) (some (.getfield 46, 121, 5, 2, 241, 0)) none) (cond (Nat.beq pc 117) (some (.aload_n 0, 118, 0, 0, 0, 0)) none)) (cond (Nat.beq pc 116) (some (.ireturn, 117, 0, 0, 0, 0)) none)))) (cond (Nat.ble 104 pc) (cond (Nat.ble 111 pc) (cond (Nat.ble 112 pc) (cond (Nat.ble 113 pc) (cond (Nat.beq pc 113) (some (.invokevirtual 59, 116, 51, 0, 575, 0)) none) (cond (Nat.beq pc 112) (some (.iconst 1, 113, 0, 0, 0, 0)) none)) (cond (Nat.beq pc 111) (some (.aload_n 0, 112, 0, 0, 0, 0)) none)) (cond (Nat.ble 107 pc) (cond (Nat.ble 108 pc) (cond (Nat.beq pc 108) (some (.if_icmp .eq 9, 111, 117, 0, 0, 0)) none) (cond (Nat.beq pc 107) (some (.iconst 2, 108, 0, 0, 0, 0)) none)) (cond (Nat.beq pc 104) (some (.getfield 32, 107, 5, 9, 252, 0)) none))) (cond (Nat.ble 99 pc) (cond (Nat.ble 100 pc) (cond (Nat.ble 103 pc) (cond (Nat.beq pc 103) (some (.aload_n 0, 104, 0, 0, 0, 0)) none) (cond (Nat.beq pc 100) (some (.invokevirtual 50, 103, 41, 0, 511, 0)) none)) (cond (Nat.beq pc 99) (some (.aload_n 0, 100, 0, 0, 0, 0)) none)) (cond (Nat.ble 95 pc) (cond (Nat.ble 98 pc) (cond (Nat.beq pc 98) (some (.ireturn, 99, 0, 0, 0, 0)) none) (cond (Nat.beq pc 95) (some (.invokevirtual 59, 98, 51, 0, 575, 0)) none)) (cond (Nat.beq pc 94) (some (.iconst 2, 95, 0, 0, 0, 0)) none)))))) (cond (Nat.ble 47 pc) (cond (Nat.ble 71 pc) (cond (Nat.ble 81 pc) (cond (Nat.ble 86 pc) (cond (Nat.ble 90 pc) (cond (Nat.ble 93 pc) (cond (Nat.beq pc 93) (some (.aload_n 0, 94, 0, 0, 0, 0)) none) (cond (Nat.beq pc 90) (some (.if_icmp .eq 9, 93, 99, 0, 0, 0)) none)) (cond (Nat.ble 89 pc) (cond (Nat.beq pc 89) (some (.iload_n 1, 90, 0, 0, 0, 0)) none) (cond (Nat.beq pc 86) (some (.invokevirtual 80, 89, 52, 1, 580, 0)) none))) (cond (Nat.ble 82 pc) (cond (Nat.ble 85 pc) (cond (Nat.beq pc 85) (some (.iload_n 2, 86, 0, 0, 0, 0)) none) (cond (Nat.beq pc 82) (some (.getfield 42, 85, 5, 1, 240, 0)) none)) (cond (Nat.beq pc 81) (some (.aload_n 0, 82, 0, 0, 0, 0)) none))) (cond (Nat.ble 76 pc) (cond (Nat.ble 77 pc) (cond (Nat.ble 78 pc) (cond (Nat.beq pc 78) (some (.if_icmp .eq 21, 81, 99, 0, 0, 0)) none) (cond (Nat.beq pc 77) (some (.iconst (-1), 78, 0, 0, 0, 0)) none)) (cond (Nat.beq pc 76) (some (.iload_n 1, 77, 0, 0, 0, 0)) none)) (cond (Nat.ble 72 pc) (cond (Nat.ble 73 pc) (cond (Nat.beq pc 73) (some (.if_icmp .eq 20, 76, 93, 0, 0, 0)) none) (cond (Nat.beq pc 72) (some (.iconst (-1), 73, 0, 0, 0, 0)) none)) (cond (Nat.beq pc 71) (some (.iload_n 2, 72, 0, 0, 0, 0)) none)))) (cond (Nat.ble 59 pc) (cond (Nat.ble 64 pc) (cond (Nat.ble 67 pc) (cond (Nat.ble 70 pc) (cond (Nat.beq pc 70) (some (.istore_n 2, 71, 0, 0, 0, 0)) none) (cond (Nat.beq pc 67) (some (.invokevirtual 74, 70, 25, 1, 579, 0)) none)) (cond (Nat.beq pc 64) (some (.getfield 29, 67, 5, 8, 251, 0)) none)) (cond (Nat.ble 60 pc) (cond (Nat.ble 63 pc) (cond (Nat.beq pc 63) (some (.aload_n 0, 64, 0, 0, 0, 0)) none) (cond (Nat.beq pc 60) (some (.getfield 26, 63, 5, 7, 250, 0)) none)) (cond (Nat.beq pc 59) (some (.aload_n 0, 60, 0, 0, 0, 0)) none))) (cond (Nat.ble 52 pc) (cond (Nat.ble 55 pc) (cond (Nat.ble 56 pc) (cond (Nat.beq pc 56) (some (.getfield 38, 59, 5, 0, 239, 0)) none) (cond (Nat.beq pc 55) (some (.aload_n 0, 56, 0, 0, 0, 0)) none)) (cond (Nat.beq pc 52) (some (.getfield 68, 55, 8, 0, 179, 0)) none)) (cond (Nat.ble 48 pc) (cond (Nat.ble 49 pc) (cond (Nat.beq pc 49) (some (.getfield 42, 52, 5, 1, 240, 0)) none) (cond (Nat.beq pc 48) (some (.aload_n 0, 49, 0, 0, 0, 0)) none)) (cond (Nat.beq pc 47) (some (.ireturn, 48, 0, 0, 0, 0)) none))))) (cond (Nat.ble 24 pc) (cond (Nat.ble 34 pc) (cond (Nat.ble 39 pc) (cond (Nat.ble 43 pc) (cond (Nat.ble 44 pc) (cond (Nat.beq pc 44) (some (.invokevirtual 59, 47, 51, 0, 575, 0)) none) (cond (Nat.beq pc 43) (some (.iconst 1, 44, 0, 0, 0, 0)) none)) (cond (Nat.ble 42 pc) (cond (Nat.beq pc 42) (some (.aload_n 0, 43, 0, 0, 0, 0)) none) (cond (Nat.beq pc 39) (some (.if_icmp .eq 9, 42, 48, 0, 0, 0)) none))) (cond (Nat.ble 35 pc) (cond (Nat.ble 38 pc) (cond (Nat.beq pc 38) (some (.iconst 2, 39, 0, 0, 0, 0)) none) (cond (Nat.beq pc 35) (some (.getfield 32, 38, 5, 9, 252, 0)) none)) (cond (Nat.beq pc 34) (some (.aload_n 0, 35, 0, 0, 0, 0)) none))) (cond (Nat.ble 29 pc) (cond (Nat.ble 30 pc) (cond (Nat.ble 31 pc) (cond (Nat.beq pc 31) (some (.invokevirtual 50, 34, 41, 0, 511, 0)) none) (cond (Nat.beq pc 30) (some (.aload_n 0, 31, 0, 0, 0, 0)) none)) (cond (Nat.beq pc 29) (some (.ireturn, 30, 0, 0, 0, 0)) none)) (cond (Nat.ble 25 pc) (cond (Nat.ble 26 pc) (cond (Nat.beq pc 26) (some (.invokevirtual 59, 29, 51, 0, 575, 0)) none) (cond (Nat.beq pc 25) (some (.iconst 4, 26, 0, 0, 0, 0)) none)) (cond (Nat.beq pc 24) (some (.aload_n 0, 25, 0, 0, 0, 0)) none)))) (cond (Nat.ble 11 pc) (cond (Nat.ble 16 pc) (cond (Nat.ble 19 pc) (cond (Nat.ble 21 pc) (cond (Nat.beq pc 21) (some (.if_icmp .lt 9, 24, 30, 0, 0, 0)) none) (cond (Nat.beq pc 19) (some (.bipush 20, 21, 0, 0, 0, 0)) none)) (cond (Nat.beq pc 16) (some (.getfield 16, 19, 5, 4, 244, 0)) none)) (cond (Nat.ble 14 pc) (cond (Nat.ble 15 pc) (cond (Nat.beq pc 15) (some (.aload_n 0, 16, 0, 0, 0, 0)) none) (cond (Nat.beq pc 14) (some (.ireturn, 15, 0, 0, 0, 0)) none)) (cond (Nat.beq pc 11) (some (.invokevirtual 59, 14, 51, 0, 575, 0)) none))) (cond (Nat.ble 6 pc) (cond (Nat.ble 9 pc) (cond (Nat.ble 10 pc) (cond (Nat.beq pc 10) (some (.iconst 1, 11, 0, 0, 0, 0)) none) (cond (Nat.beq pc 9) (some (.aload_n 0, 10, 0, 0, 0, 0)) none)) (cond (Nat.beq pc 6) (some (.ifCond .ne 9, 9, 15, 0, 0, 0)) none)) (cond (Nat.ble 1 pc) (cond (Nat.ble 3 pc) (cond (Nat.beq pc 3) (some (.invokevirtual 64, 6, 43, 0, 522, 0)) none) (cond (Nat.beq pc 1) (some (.ldc 62, 3, 1, 0, 521, 0)) none)) (cond (Nat.beq pc 0) (some (.aload_n 0, 1, 0, 0, 0, 0)) none)))))))
def rc_43 (pc : Nat) : Option RI := cond (Nat.ble 67 pc) none (cond (Nat.ble 30 pc) (cond (Nat.ble 49 pc) (cond (Nat.ble 58 pc) (cond (Nat.ble 62 pc) (cond (Nat.ble 65 pc) (cond (Nat.ble 66 pc) (cond (Nat.beq pc 66) (some (.ireturn, 67, 0, 0, 0, 0)) none) (cond (Nat.beq pc 65) (some (.iconst 1, 66, 0, 0, 0, 0)) none)) (cond (Nat.beq pc 62) (some (.goto (-34), 65, 28, 0, 0, 0)) none)) (cond (Nat.ble 59 pc) (cond (Nat.beq pc 59) (some (.iinc 2 1, 62, 0, 0, 0, 0)) none) (cond (Nat.beq pc 58) (some (.ireturn, 59, 0, 0, 0, 0)) none))) (cond (Nat.ble 51 pc) (cond (Nat.ble 54 pc) (cond (Nat.ble 57 pc) (cond (Nat.beq pc 57) (some (.iconst 0, 58, 0, 0, 0, 0)) none) (cond (Nat.beq pc 54) (some (.if_icmp .eq 5, 57, 59, 0, 0, 0)) none)) (cond (Nat.beq pc 51) (some (.invokevirtual 121, 54, 46, 0, 537, 0)) none)) (cond (Nat.ble 50 pc) (cond (Nat.beq pc 50) (some (.iload_n 2, 51, 0, 0, 0, 0)) none) (cond (Nat.beq pc 49) (some (.aload_n 1, 50, 0, 0, 0, 0)) none)))) (cond (Nat.ble 40 pc) (cond (Nat.ble 44 pc) (cond (Nat.ble 45 pc) (cond (Nat.ble 46 pc) (cond (Nat.beq pc 46) (some (.invokevirtual 118, 49, 24, 1, 536, 0)) none) (cond (Nat.beq pc 45) (some (.iadd, 46, 0, 0, 0, 0)) none)) (cond (Nat.beq pc 44) (some (.iload_n 2, 45, 0, 0, 0, 0)) none)) (cond (Nat.ble 41 pc) (cond (Nat.beq pc 41) (some (.getfield 26, 44, 5, 7, 250, 0)) none) (cond (Nat.beq pc 40) (some (.aload_n 0, 41, 0, 0, 0, 0)) none))) (cond (Nat.ble 36 pc) (cond (Nat.ble 37 pc) (cond (Nat.beq pc 37) (some (.getfield 38, 40, 5, 0, 239, 0)) none) (cond (Nat.beq pc 36) (some (.aload_n 0, 37, 0, 0, 0, 0)) none)) (cond (Nat.ble 33 pc) (cond (Nat.beq pc 33) (some (.if_icmp .ge 32, 36, 65, 0, 0, 0)) none) (cond (Nat.beq pc 30) (some (.invokevirtual 113, 33, 44, 0, 526, 0)) none))))) (cond (Nat.ble 17 pc) (cond (Nat.ble 25 pc) (cond (Nat.ble 27 pc) (cond (Nat.ble 28 pc) (cond (Nat.ble 29 pc) (cond (Nat.beq pc 29) (some (.aload_n 1, 30, 0, 0, 0, 0)) none) (cond (Nat.beq pc 28) (some (.iload_n 2, 29, 0, 0, 0, 0)) none)) (cond (Nat.beq pc 27) (some (.istore_n 2, 28, 0, 0, 0, 0)) none)) (cond (Nat.ble 26 pc) (cond (Nat.beq pc 26) (some (.iconst 0, 27, 0, 0, 0, 0)) none) (cond (Nat.beq pc 25) (some (.ireturn, 26, 0, 0, 0, 0)) none))) (cond (Nat.ble 21 pc) (cond (Nat.ble 24 pc) (cond (Nat.beq pc 24) (some (.iconst 0, 25, 0, 0, 0, 0)) none) (cond (Nat.beq pc 21) (some (.if_icmp .eq 5, 24, 26, 0, 0, 0)) none)) (cond (Nat.ble 18 pc) (cond (Nat.beq pc 18) (some (.invokevirtual 113, 21, 44, 0, 526, 0)) none) (cond (Nat.beq pc 17) (some (.aload_n 1, 18, 0, 0, 0, 0)) none)))) (cond (Nat.ble 8 pc) (cond (Nat.ble 12 pc) (cond (Nat.ble 13 pc) (cond (Nat.ble 16 pc) (cond (Nat.beq pc 16) (some (.isub, 17, 0, 0, 0, 0)) none) (cond (Nat.beq pc 13) (some (.getfield 26, 16, 5, 7, 250, 0)) none)) (cond (Nat.beq pc 12) (some (.aload_n 0, 13, 0, 0, 0, 0)) none)) (cond (Nat.ble 9 pc) (cond (Nat.beq pc 9) (some (.getfield 29, 12, 5, 8, 251, 0)) none) (cond (Nat.beq pc 8) (some (.aload_n 0, 9, 0, 0, 0, 0)) none))) (cond (Nat.ble 4 pc) (cond (Nat.ble 5 pc) (cond (Nat.beq pc 5) (some (.if_icmp .ne 19, 8, 24, 0, 0, 0)) none) (cond (Nat.beq pc 4) (some (.iconst 2, 5, 0, 0, 0, 0)) none)) (cond (Nat.ble 1 pc) (cond (Nat.beq pc 1) (some (.getfield 32, 4, 5, 9, 252, 0)) none) (cond (Nat.beq pc 0) (some (.aload_n 0, 1, 0, 0, 0, 0)) none))))))
def rc_44 (pc : Nat) : Option RI := cond (Nat.ble 11 pc) none (cond (Nat.ble 5 pc) (cond (Nat.ble 9 pc) (cond (Nat.ble 10 pc) (cond (Nat.beq pc 10) (some (.ireturn, 11, 0, 0, 0, 0)) none) (cond (Nat.beq pc 9) (some (.ishr, 10, 0, 0, 0, 0)) none)) (cond (Nat.ble 6 pc) (cond (Nat.beq pc 6) (some (.invokevirtual 335, 9, 45, 0, 530, 0)) none) (cond (Nat.beq pc 5) (some (.aload_n 0, 6, 0, 0, 0, 0)) none))) (cond (Nat.ble 1 pc) (cond (Nat.ble 4 pc) (cond (Nat.beq pc 4) (some (.arraylength, 5, 0, 0, 0, 0)) none) (cond (Nat.beq pc 1) (some (.getfield 9, 4, 12, 0, 1418, 0)) none)) (cond (Nat.beq pc 0) (some (.aload_n 0, 1, 0, 0, 0, 0)) none)))
def rc_45 (pc : Nat) : Option RI := cond (Nat.ble 15 pc) none (cond (Nat.ble 7 pc) (cond (Nat.ble 13 pc) (cond (Nat.ble 14 pc) (cond (Nat.beq pc 14) (some (.ireturn, 15, 0, 0, 0, 0)) none) (cond (Nat.beq pc 13) (some (.iconst 1, 14, 0, 0, 0, 0)) none)) (cond (Nat.ble 10 pc) (cond (Nat.beq pc 10) (some (.goto 4, 13, 14, 0, 0, 0)) none) (cond (Nat.beq pc 7) (some (.getfield 15, 10, 12, 1, 1419, 0)) none))) (cond (Nat.ble 3 pc) (cond (Nat.ble 6 pc) (cond (Nat.beq pc 6) (some (.aload_n 0, 7, 0, 0, 0, 0)) none) (cond (Nat.beq pc 3) (some (.ifCond .eq 10, 6, 13, 0, 0, 0)) none)) (cond (Nat.beq pc 0) (some (.getstatic 38, 3, 0, 0, 534, 0)) none)))
def rc_46 (pc : Nat) : Option RI := cond (Nat.ble 25 pc) none (cond (Nat.ble 12 pc) (cond (Nat.ble 17 pc) (cond (Nat.ble 20 pc) (cond (Nat.ble 24 pc) (cond (Nat.beq pc 24) (some (.ireturn, 25, 0, 0, 0, 0)) none) (cond (Nat.beq pc 20) (some (.iload_n 1, 21, 0, 0, 0, 0)) none)) (cond (Nat.beq pc 17) (some (.getfield 9, 20, 12, 0, 1418, 0)) none)) (cond (Nat.ble 15 pc) (cond (Nat.ble 16 pc) (cond (Nat.beq pc 16) (some (.aload_n 0, 17, 0, 0, 0, 0)) none) (cond (Nat.beq pc 15) (some (.ireturn, 16, 0, 0, 0, 0)) none)) (cond (Nat.beq pc 12) (some (.invokestatic 495, 15, 48, 0, 545, 0)) none))) (cond (Nat.ble 7 pc) (cond (Nat.ble 8 pc) (cond (Nat.ble 11 pc) (cond (Nat.beq pc 11) (some (.iload_n 1, 12, 0, 0, 0, 0)) none) (cond (Nat.beq pc 8) (some (.getfield 9, 11, 12, 0, 1418, 0)) none)) (cond (Nat.beq pc 7) (some (.aload_n 0, 8, 0, 0, 0, 0)) none)) (cond (Nat.ble 1 pc) (cond (Nat.ble 4 pc) (cond (Nat.beq pc 4) (some (.ifCond .eq 12, 7, 16, 0, 0, 0)) none) (cond (Nat.beq pc 1) (some (.invokevirtual 492, 4, 47, 0, 541, 0)) none)) (cond (Nat.beq pc 0) (some (.aload_n 0, 1, 0, 0, 0, 0)) none))))
def rc_47 (pc : Nat) : Option RI := cond (Nat.ble 19 pc) none (cond (Nat.ble 10 pc) (cond (Nat.ble 14 pc) (cond (Nat.ble 17 pc) (cond (Nat.ble 18 pc) (cond (Nat.beq pc 18) (some (.ireturn, 19, 0, 0, 0, 0)) none) (cond (Nat.beq pc 17) (some (.iconst 0, 18, 0, 0, 0, 0)) none)) (cond (Nat.beq pc 14) (some (.goto 4, 17, 18, 0, 0, 0)) none)) (cond (Nat.ble 13 pc) (cond (Nat.beq pc 13) (some (.iconst 1, 14, 0, 0, 0, 0)) none) (cond (Nat.beq pc 10) (some (.ifCond .ne 7, 13, 17, 0, 0, 0)) none))) (cond (Nat.ble 6 pc) (cond (Nat.ble 7 pc) (cond (Nat.beq pc 7) (some (.getfield 15, 10, 12, 1, 1419, 0)) none) (cond (Nat.beq pc 6) (some (.aload_n 0, 7, 0, 0, 0, 0)) none)) (cond (Nat.ble 3 pc) (cond (Nat.beq pc 3) (some (.ifCond .eq 14, 6, 17, 0, 0, 0)) none) (cond (Nat.beq pc 0) (some (.getstatic 38, 3, 0, 0, 534, 0)) none))))
def rc_48 (pc : Nat) : Option RI := cond (Nat.ble 15 pc) none (cond (Nat.ble 7 pc) (cond (Nat.ble 12 pc) (cond (Nat.ble 13 pc) (cond (Nat.ble 14 pc) (cond (Nat.beq pc 14) (some (.ireturn, 15, 0, 0, 0, 0)) none) (cond (Nat.beq pc 13) (some (.i2c, 14, 0, 0, 0, 0)) none)) (cond (Nat.beq pc 12) (some (.iand, 13, 0, 0, 0, 0)) none)) (cond (Nat.ble 8 pc) (cond (Nat.ble 9 pc) (cond (Nat.beq pc 9) (some (.sipush 255, 12, 0, 0, 0, 0)) none) (cond (Nat.beq pc 8) (some (.baload, 9, 0, 0, 0, 0)) none)) (cond (Nat.beq pc 7) (some (.iload_n 1, 8, 0, 0, 0, 0)) none))) (cond (Nat.ble 2 pc) (cond (Nat.ble 3 pc) (cond (Nat.ble 6 pc) (cond (Nat.beq pc 6) (some (.aload_n 0, 7, 0, 0, 0, 0)) none) (cond (Nat.beq pc 3) (some (.invokestatic 9, 6, 49, 0, 548, 0)) none)) (cond (Nat.beq pc 2) (some (.arraylength, 3, 0, 0, 0, 0)) none)) (cond (Nat.ble 1 pc) (cond (Nat.beq pc 1) (some (.aload_n 0, 2, 0, 0, 0, 0)) none) (cond (Nat.beq pc 0) (some (.iload_n 1, 1, 0, 0, 0, 0)) none))))
def rc_49 (pc : Nat) : Option RI := cond (Nat.ble 10 pc) none (cond (Nat.ble 5 pc) (cond (Nat.ble 8 pc) (cond (Nat.ble 9 pc) (cond (Nat.beq pc 9) (some (.return_, 10, 0, 0, 0, 0)) none) (cond (Nat.beq pc 8) (some (.pop, 9, 0, 0, 0, 0)) none)) (cond (Nat.beq pc 5) (some (.invokestatic 1059, 8, 50, 0, 553, 0)) none)) (cond (Nat.ble 1 pc) (cond (Nat.ble 2 pc) (cond (Nat.beq pc 2) (some (.getstatic 1053, 5, 1, 0, 551, 0)) none) (cond (Nat.beq pc 1) (some (.iload_n 1, 2, 0, 0, 0, 0)) none)) (cond (Nat.beq pc 0) (some (.iload_n 0, 1, 0, 0, 0, 0)) none)))
def rc_50 (pc : Nat) : Option RI := cond (Nat.ble 18 pc) none (cond (Nat.ble 9 pc) (cond (Nat.ble 15 pc) (cond (Nat.ble 16 pc) (cond (Nat.ble 17 pc) (cond (Nat.beq pc 17) (some (.ireturn, 18, 0, 0, 0, 0)) none) (cond (Nat.beq pc 16) (some (.iload_n 0, 17, 0, 0, 0, 0)) none)) (cond (Nat.beq pc 15) (some (.athrow, 16, 0, 0, 0, 0)) none)) (cond (Nat.ble 10 pc) (cond (Nat.ble 11 pc) (cond (Nat.beq pc 11) (some (.iload_n 1, 12, 0, 0, 0, 0)) none) (cond (Nat.beq pc 10) (some (.iload_n 0, 11, 0, 0, 0, 0)) none)) (cond (Nat.beq pc 9) (some (.aload_n 2, 10, 0, 0, 0, 0)) none))) (cond (Nat.ble 4 pc) (cond (Nat.ble 5 pc) (cond (Nat.ble 6 pc) (cond (Nat.beq pc 6) (some (.if_icmp .lt 10, 9, 16, 0, 0, 0)) none) (cond (Nat.beq pc 5) (some (.iload_n 1, 6, 0, 0, 0, 0)) none)) (cond (Nat.beq pc 4) (some (.iload_n 0, 5, 0, 0, 0, 0)) none)) (cond (Nat.ble 1 pc) (cond (Nat.beq pc 1) (some (.ifCond .lt 8, 4, 9, 0, 0, 0)) none) (cond (Nat.beq pc 0) (some (.iload_n 0, 1, 0, 0, 0, 0)) none))))
def rc_51 (pc : Nat) : Option RI := cond (Nat.ble 15 pc) none (cond (Nat.ble 6 pc) (cond (Nat.ble 10 pc) (cond (Nat.ble 13 pc) (cond (Nat.ble 14 pc) (cond (Nat.beq pc 14) (some (.ireturn, 15, 0, 0, 0, 0)) none) (cond (Nat.beq pc 13) (some (.iconst 0, 14, 0, 0, 0, 0)) none)) (cond (Nat.beq pc 10) (some (.putfield 23, 13, 5, 6, 248, 0)) none)) (cond (Nat.ble 7 pc) (cond (Nat.beq pc 7) (some (.getfield 26, 10, 5, 7, 250, 0)) none) (cond (Nat.beq pc 6) (some (.aload_n 0, 7, 0, 0, 0, 0)) none))) (cond (Nat.ble 2 pc) (cond (Nat.ble 5 pc) (cond (Nat.beq pc 5) (some (.aload_n 0, 6, 0, 0, 0, 0)) none) (cond (Nat.beq pc 2) (some (.putfield 20, 5, 5, 5, 246, 0)) none)) (cond (Nat.ble 1 pc) (cond (Nat.beq pc 1) (some (.iload_n 1, 2, 0, 0, 0, 0)) none) (cond (Nat.beq pc 0) (some (.aload_n 0, 1, 0, 0, 0, 0)) none))))
def rc_52 (pc : Nat) : Option RI := cond (Nat.ble 19 pc) none (cond (Nat.ble 9 pc) (cond (Nat.ble 14 pc) (cond (Nat.ble 17 pc) (cond (Nat.ble 18 pc) (cond (Nat.beq pc 18) (some (.ireturn, 19, 0, 0, 0, 0)) none) (cond (Nat.beq pc 17) (some (.iconst (-1), 18, 0, 0, 0, 0)) none)) (cond (Nat.beq pc 14) (some (.goto 4, 17, 18, 0, 0, 0)) none)) (cond (Nat.ble 12 pc) (cond (Nat.ble 13 pc) (cond (Nat.beq pc 13) (some (.iaload, 14, 0, 0, 0, 0)) none) (cond (Nat.beq pc 12) (some (.iload_n 1, 13, 0, 0, 0, 0)) none)) (cond (Nat.beq pc 9) (some (.getfield 20, 12, 8, 1, 181, 0)) none))) (cond (Nat.ble 2 pc) (cond (Nat.ble 5 pc) (cond (Nat.ble 8 pc) (cond (Nat.beq pc 8) (some (.aload_n 0, 9, 0, 0, 0, 0)) none) (cond (Nat.beq pc 5) (some (.ifCond .eq 12, 8, 17, 0, 0, 0)) none)) (cond (Nat.beq pc 2) (some (.invokevirtual 35, 5, 29, 0, 460, 0)) none)) (cond (Nat.ble 1 pc) (cond (Nat.beq pc 1) (some (.iload_n 1, 2, 0, 0, 0, 0)) none) (cond (Nat.beq pc 0) (some (.aload_n 0, 1, 0, 0, 0, 0)) none))))
def rc_53 (pc : Nat) : Option RI := cond (Nat.ble 51 pc) none (cond (Nat.ble 26 pc) (cond (Nat.ble 38 pc) (cond (Nat.ble 45 pc) (cond (Nat.ble 49 pc) (cond (Nat.ble 50 pc) (cond (Nat.beq pc 50) (some (.return_, 51, 0, 0, 0, 0)) none) (cond (Nat.beq pc 49) (some (.iastore, 50, 0, 0, 0, 0)) none)) (cond (Nat.ble 48 pc) (cond (Nat.beq pc 48) (some (.iload_n 2, 49, 0, 0, 0, 0)) none) (cond (Nat.beq pc 45) (some (.getfield 16, 48, 5, 4, 244, 0)) none))) (cond (Nat.ble 43 pc) (cond (Nat.ble 44 pc) (cond (Nat.beq pc 44) (some (.aload_n 0, 45, 0, 0, 0, 0)) none) (cond (Nat.beq pc 43) (some (.aaload, 44, 0, 0, 0, 0)) none)) (cond (Nat.ble 41 pc) (cond (Nat.beq pc 41) (some (.bipush 6, 43, 0, 0, 0, 0)) none) (cond (Nat.beq pc 38) (some (.getfield 11, 41, 5, 3, 242, 0)) none)))) (cond (Nat.ble 32 pc) (cond (Nat.ble 36 pc) (cond (Nat.ble 37 pc) (cond (Nat.beq pc 37) (some (.aload_n 0, 38, 0, 0, 0, 0)) none) (cond (Nat.beq pc 36) (some (.iastore, 37, 0, 0, 0, 0)) none)) (cond (Nat.ble 35 pc) (cond (Nat.beq pc 35) (some (.iload_n 1, 36, 0, 0, 0, 0)) none) (cond (Nat.beq pc 32) (some (.getfield 16, 35, 5, 4, 244, 0)) none))) (cond (Nat.ble 30 pc) (cond (Nat.ble 31 pc) (cond (Nat.beq pc 31) (some (.aload_n 0, 32, 0, 0, 0, 0)) none) (cond (Nat.beq pc 30) (some (.aaload, 31, 0, 0, 0, 0)) none)) (cond (Nat.ble 29 pc) (cond (Nat.beq pc 29) (some (.iconst 5, 30, 0, 0, 0, 0)) none) (cond (Nat.beq pc 26) (some (.getfield 11, 29, 5, 3, 242, 0)) none))))) (cond (Nat.ble 12 pc) (cond (Nat.ble 18 pc) (cond (Nat.ble 22 pc) (cond (Nat.ble 25 pc) (cond (Nat.beq pc 25) (some (.aload_n 0, 26, 0, 0, 0, 0)) none) (cond (Nat.beq pc 22) (some (.goto (-20), 25, 2, 0, 0, 0)) none)) (cond (Nat.ble 19 pc) (cond (Nat.beq pc 19) (some (.iinc 3 1, 22, 0, 0, 0, 0)) none) (cond (Nat.beq pc 18) (some (.iastore, 19, 0, 0, 0, 0)) none))) (cond (Nat.ble 14 pc) (cond (Nat.ble 17 pc) (cond (Nat.beq pc 17) (some (.iconst 0, 18, 0, 0, 0, 0)) none) (cond (Nat.beq pc 14) (some (.getfield 16, 17, 5, 4, 244, 0)) none)) (cond (Nat.ble 13 pc) (cond (Nat.beq pc 13) (some (.aload_n 0, 14, 0, 0, 0, 0)) none) (cond (Nat.beq pc 12) (some (.aaload, 13, 0, 0, 0, 0)) none)))) (cond (Nat.ble 4 pc) (cond (Nat.ble 8 pc) (cond (Nat.ble 11 pc) (cond (Nat.beq pc 11) (some (.iload_n 3, 12, 0, 0, 0, 0)) none) (cond (Nat.beq pc 8) (some (.getfield 11, 11, 5, 3, 242, 0)) none)) (cond (Nat.ble 7 pc) (cond (Nat.beq pc 7) (some (.aload_n 0, 8, 0, 0, 0, 0)) none) (cond (Nat.beq pc 4) (some (.if_icmp .ge 21, 7, 25, 0, 0, 0)) none))) (cond (Nat.ble 2 pc) (cond (Nat.ble 3 pc) (cond (Nat.beq pc 3) (some (.iconst 5, 4, 0, 0, 0, 0)) none) (cond (Nat.beq pc 2) (some (.iload_n 3, 3, 0, 0, 0, 0)) none)) (cond (Nat.ble 1 pc) (cond (Nat.beq pc 1) (some (.istore_n 3, 2, 0, 0, 0, 0)) none) (cond (Nat.beq pc 0) (some (.iconst 0, 1, 0, 0, 0, 0)) none))))))
def rc_54 (pc : Nat) : Option RI := cond (Nat.ble 125 pc) none (cond (Nat.ble 61 pc) (cond (Nat.ble 90 pc) (cond (Nat.ble 107 pc) (cond (Nat.ble 116 pc) (cond (Nat.ble 120 pc) (cond (Nat.ble 121 pc) (cond (Nat.ble 124 pc) (cond (Nat.beq pc 124) (some (.ireturn, 125, 0, 0, 0, 0)) none) (cond (Nat.beq pc 121) (some (.invokevirtual 59, 124, 51, 0, 575, 0)) none)) (cond (Nat.beq pc 120) (some (.iconst 3, 121, 0, 0, 0, 0)) none)) (cond (Nat.ble 119 pc) (cond (Nat.beq pc 119) (some (.aload_n 0, 120, 0, 0, 0, 0)) none) (cond (Nat.beq pc 116) (some (.goto (-112), 119, 4, 0, 0, 0)) none))) (cond (Nat.ble 109 pc) (cond (Nat.ble 110 pc) (cond (Nat.ble 113 pc) (cond (Nat.beq pc 113) (some (.iinc 2 1, 116, 0, 0, 0, 0)) none) (cond (Nat.beq pc 110) (some (.invokevirtual 50, 113, 41, 0, 511, 0)) none)) (cond (Nat.beq pc 109) (some (.aload_n 0, 110, 0, 0, 0, 0)) none)) (cond (Nat.ble 108 pc) (cond (Nat.beq pc 108) (some (.ireturn, 109, 0, 0, 0, 0)) none) (cond (Nat.beq pc 107) (some (.iconst 1, 108, 0, 0, 0, 0)) none)))) (cond (Nat.ble 98 pc) (cond (Nat.ble 102 pc) (cond (Nat.ble 103 pc) (cond (Nat.ble 104 pc) (cond (Nat.beq pc 104) (some (.putfield 16, 107, 5, 4, 244, 0)) none) (cond (Nat.beq pc 103) (some (.iadd, 104, 0, 0, 0, 0)) none)) (cond (Nat.beq pc 102) (some (.iconst 1, 103, 0, 0, 0, 0)) none)) (cond (Nat.ble 99 pc) (cond (Nat.beq pc 99) (some (.getfield 16, 102, 5, 4, 244, 0)) none) (cond (Nat.beq pc 98) (some (.dup, 99, 0, 0, 0, 0)) none))) (cond (Nat.ble 94 pc) (cond (Nat.ble 97 pc) (cond (Nat.beq pc 97) (some (.aload_n 0, 98, 0, 0, 0, 0)) none) (cond (Nat.beq pc 94) (some (.if_icmp .eq 15, 97, 109, 0, 0, 0)) none)) (cond (Nat.ble 93 pc) (cond (Nat.beq pc 93) (some (.iconst 4, 94, 0, 0, 0, 0)) none) (cond (Nat.beq pc 90) (some (.getfield 32, 93, 5, 9, 252, 0)) none))))) (cond (Nat.ble 73 pc) (cond (Nat.ble 83 pc) (cond (Nat.ble 85 pc) (cond (Nat.ble 86 pc) (cond (Nat.ble 89 pc) (cond (Nat.beq pc 89) (some (.aload_n 0, 90, 0, 0, 0, 0)) none) (cond (Nat.beq pc 86) (some (.invokevirtual 50, 89, 41, 0, 511, 0)) none)) (cond (Nat.beq pc 85) (some (.aload_n 0, 86, 0, 0, 0, 0)) none)) (cond (Nat.ble 84 pc) (cond (Nat.beq pc 84) (some (.iastore, 85, 0, 0, 0, 0)) none) (cond (Nat.beq pc 83) (some (.iload_n 3, 84, 0, 0, 0, 0)) none))) (cond (Nat.ble 78 pc) (cond (Nat.ble 79 pc) (cond (Nat.ble 80 pc) (cond (Nat.beq pc 80) (some (.getfield 16, 83, 5, 4, 244, 0)) none) (cond (Nat.beq pc 79) (some (.aload_n 0, 80, 0, 0, 0, 0)) none)) (cond (Nat.beq pc 78) (some (.aaload, 79, 0, 0, 0, 0)) none)) (cond (Nat.ble 76 pc) (cond (Nat.beq pc 76) (some (.iload 4, 78, 0, 0, 0, 0)) none) (cond (Nat.beq pc 73) (some (.getfield 11, 76, 5, 3, 242, 0)) none)))) (cond (Nat.ble 67 pc) (cond (Nat.ble 70 pc) (cond (Nat.ble 71 pc) (cond (Nat.ble 72 pc) (cond (Nat.beq pc 72) (some (.aload_n 0, 73, 0, 0, 0, 0)) none) (cond (Nat.beq pc 71) (some (.istore_n 1, 72, 0, 0, 0, 0)) none)) (cond (Nat.beq pc 70) (some (.ior, 71, 0, 0, 0, 0)) none)) (cond (Nat.ble 69 pc) (cond (Nat.beq pc 69) (some (.ishl, 70, 0, 0, 0, 0)) none) (cond (Nat.beq pc 67) (some (.iload 4, 69, 0, 0, 0, 0)) none))) (cond (Nat.ble 65 pc) (cond (Nat.ble 66 pc) (cond (Nat.beq pc 66) (some (.iconst 1, 67, 0, 0, 0, 0)) none) (cond (Nat.beq pc 65) (some (.iload_n 1, 66, 0, 0, 0, 0)) none)) (cond (Nat.ble 64 pc) (cond (Nat.beq pc 64) (some (.ireturn, 65, 0, 0, 0, 0)) none) (cond (Nat.beq pc 61) (some (.invokevirtual 59, 64, 51, 0, 575, 0)) none)))))) (cond (Nat.ble 29 pc) (cond (Nat.ble 46 pc) (cond (Nat.ble 54 pc) (cond (Nat.ble 56 pc) (cond (Nat.ble 59 pc) (cond (Nat.ble 60 pc) (cond (Nat.beq pc 60) (some (.iconst 3, 61, 0, 0, 0, 0)) none) (cond (Nat.beq pc 59) (some (.aload_n 0, 60, 0, 0, 0, 0)) none)) (cond (Nat.beq pc 56) (some (.ifCond .eq 9, 59, 65, 0, 0, 0)) none)) (cond (Nat.ble 55 pc) (cond (Nat.beq pc 55) (some (.iand, 56, 0, 0, 0, 0)) none) (cond (Nat.beq pc 54) (some (.ishl, 55, 0, 0, 0, 0)) none))) (cond (Nat.ble 50 pc) (cond (Nat.ble 51 pc) (cond (Nat.ble 52 pc) (cond (Nat.beq pc 52) (some (.iload 4, 54, 0, 0, 0, 0)) none) (cond (Nat.beq pc 51) (some (.iconst 1, 52, 0, 0, 0, 0)) none)) (cond (Nat.beq pc 50) (some (.iload_n 1, 51, 0, 0, 0, 0)) none)) (cond (Nat.ble 49 pc) (cond (Nat.beq pc 49) (some (.ireturn, 50, 0, 0, 0, 0)) none) (cond (Nat.beq pc 46) (some (.invokevirtual 59, 49, 51, 0, 575, 0)) none)))) (cond (Nat.ble 38 pc) (cond (Nat.ble 41 pc) (cond (Nat.ble 44 pc) (cond (Nat.ble 45 pc) (cond (Nat.beq pc 45) (some (.iconst 1, 46, 0, 0, 0, 0)) none) (cond (Nat.beq pc 44) (some (.aload_n 0, 45, 0, 0, 0, 0)) none)) (cond (Nat.beq pc 41) (some (.if_icmp .ne 9, 44, 50, 0, 0, 0)) none)) (cond (Nat.ble 40 pc) (cond (Nat.beq pc 40) (some (.iconst (-1), 41, 0, 0, 0, 0)) none) (cond (Nat.beq pc 38) (some (.iload 4, 40, 0, 0, 0, 0)) none))) (cond (Nat.ble 33 pc) (cond (Nat.ble 36 pc) (cond (Nat.beq pc 36) (some (.istore 4, 38, 0, 0, 0, 0)) none) (cond (Nat.beq pc 33) (some (.invokevirtual 101, 36, 56, 0, 597, 0)) none)) (cond (Nat.ble 32 pc) (cond (Nat.beq pc 32) (some (.aload_n 0, 33, 0, 0, 0, 0)) none) (cond (Nat.beq pc 29) (some (.invokevirtual 50, 32, 41, 0, 511, 0)) none))))) (cond (Nat.ble 13 pc) (cond (Nat.ble 22 pc) (cond (Nat.ble 24 pc) (cond (Nat.ble 27 pc) (cond (Nat.ble 28 pc) (cond (Nat.beq pc 28) (some (.aload_n 0, 29, 0, 0, 0, 0)) none) (cond (Nat.beq pc 27) (some (.istore_n 3, 28, 0, 0, 0, 0)) none)) (cond (Nat.beq pc 24) (some (.invokevirtual 97, 27, 55, 0, 593, 0)) none)) (cond (Nat.ble 23 pc) (cond (Nat.beq pc 23) (some (.aload_n 0, 24, 0, 0, 0, 0)) none) (cond (Nat.beq pc 22) (some (.ireturn, 23, 0, 0, 0, 0)) none))) (cond (Nat.ble 17 pc) (cond (Nat.ble 18 pc) (cond (Nat.ble 19 pc) (cond (Nat.beq pc 19) (some (.invokevirtual 59, 22, 51, 0, 575, 0)) none) (cond (Nat.beq pc 18) (some (.iconst 1, 19, 0, 0, 0, 0)) none)) (cond (Nat.beq pc 17) (some (.aload_n 0, 18, 0, 0, 0, 0)) none)) (cond (Nat.ble 14 pc) (cond (Nat.beq pc 14) (some (.if_icmp .eq 9, 17, 23, 0, 0, 0)) none) (cond (Nat.beq pc 13) (some (.iconst 3, 14, 0, 0, 0, 0)) none)))) (cond (Nat.ble 4 pc) (cond (Nat.ble 6 pc) (cond (Nat.ble 9 pc) (cond (Nat.ble 10 pc) (cond (Nat.beq pc 10) (some (.getfield 32, 13, 5, 9, 252, 0)) none) (cond (Nat.beq pc 9) (some (.aload_n 0, 10, 0, 0, 0, 0)) none)) (cond (Nat.beq pc 6) (some (.if_icmp .gt 113, 9, 119, 0, 0, 0)) none)) (cond (Nat.ble 5 pc) (cond (Nat.beq pc 5) (some (.iconst 5, 6, 0, 0, 0, 0)) none) (cond (Nat.beq pc 4) (some (.iload_n 2, 5, 0, 0, 0, 0)) none))) (cond (Nat.ble 2 pc) (cond (Nat.ble 3 pc) (cond (Nat.beq pc 3) (some (.istore_n 2, 4, 0, 0, 0, 0)) none) (cond (Nat.beq pc 2) (some (.iconst 0, 3, 0, 0, 0, 0)) none)) (cond (Nat.ble 1 pc) (cond (Nat.beq pc 1) (some (.istore_n 1, 2, 0, 0, 0, 0)) none) (cond (Nat.beq pc 0) (some (.iconst 0, 1, 0, 0, 0, 0)) none)))))))
def rc_55 (pc : Nat) : Option RI := cond (Nat.ble 40 pc) none (cond (Nat.ble 19 pc) (cond (Nat.ble 30 pc) (cond (Nat.ble 35 pc) (cond (Nat.ble 38 pc) (cond (Nat.ble 39 pc) (cond (Nat.beq pc 39) (some (.ireturn, 40, 0, 0, 0, 0)) none) (cond (Nat.beq pc 38) (some (.iload_n 1, 39, 0, 0, 0, 0)) none)) (cond (Nat.beq pc 35) (some (.goto (-28), 38, 7, 0, 0, 0)) none)) (cond (Nat.ble 31 pc) (cond (Nat.ble 32 pc) (cond (Nat.beq pc 32) (some (.iinc 2 1, 35, 0, 0, 0, 0)) none) (cond (Nat.beq pc 31) (some (.istore_n 1, 32, 0, 0, 0, 0)) none)) (cond (Nat.beq pc 30) (some (.isub, 31, 0, 0, 0, 0)) none))) (cond (Nat.ble 24 pc) (cond (Nat.ble 27 pc) (cond (Nat.ble 28 pc) (cond (Nat.beq pc 28) (some (.bipush 48, 30, 0, 0, 0, 0)) none) (cond (Nat.beq pc 27) (some (.iadd, 28, 0, 0, 0, 0)) none)) (cond (Nat.beq pc 24) (some (.invokevirtual 118, 27, 24, 1, 536, 0)) none)) (cond (Nat.ble 20 pc) (cond (Nat.ble 23 pc) (cond (Nat.beq pc 23) (some (.iload_n 2, 24, 0, 0, 0, 0)) none) (cond (Nat.beq pc 20) (some (.getfield 38, 23, 5, 0, 239, 0)) none)) (cond (Nat.beq pc 19) (some (.aload_n 0, 20, 0, 0, 0, 0)) none)))) (cond (Nat.ble 8 pc) (cond (Nat.ble 15 pc) (cond (Nat.ble 16 pc) (cond (Nat.ble 18 pc) (cond (Nat.beq pc 18) (some (.imul, 19, 0, 0, 0, 0)) none) (cond (Nat.beq pc 16) (some (.bipush 10, 18, 0, 0, 0, 0)) none)) (cond (Nat.beq pc 15) (some (.iload_n 1, 16, 0, 0, 0, 0)) none)) (cond (Nat.ble 9 pc) (cond (Nat.ble 12 pc) (cond (Nat.beq pc 12) (some (.if_icmp .ge 26, 15, 38, 0, 0, 0)) none) (cond (Nat.beq pc 9) (some (.getfield 29, 12, 5, 8, 251, 0)) none)) (cond (Nat.beq pc 8) (some (.aload_n 0, 9, 0, 0, 0, 0)) none))) (cond (Nat.ble 3 pc) (cond (Nat.ble 6 pc) (cond (Nat.ble 7 pc) (cond (Nat.beq pc 7) (some (.iload_n 2, 8, 0, 0, 0, 0)) none) (cond (Nat.beq pc 6) (some (.istore_n 2, 7, 0, 0, 0, 0)) none)) (cond (Nat.beq pc 3) (some (.getfield 26, 6, 5, 7, 250, 0)) none)) (cond (Nat.ble 1 pc) (cond (Nat.ble 2 pc) (cond (Nat.beq pc 2) (some (.aload_n 0, 3, 0, 0, 0, 0)) none) (cond (Nat.beq pc 1) (some (.istore_n 1, 2, 0, 0, 0, 0)) none)) (cond (Nat.beq pc 0) (some (.iconst 0, 1, 0, 0, 0, 0)) none)))))
def rc_56 (pc : Nat) : Option RI := cond (Nat.ble 59 pc) none (cond (Nat.ble 31 pc) (cond (Nat.ble 44 pc) (cond (Nat.ble 53 pc) (cond (Nat.ble 57 pc) (cond (Nat.ble 58 pc) (cond (Nat.beq pc 58) (some (.ireturn, 59, 0, 0, 0, 0)) none) (cond (Nat.beq pc 57) (some (.iconst (-1), 58, 0, 0, 0, 0)) none)) (cond (Nat.ble 54 pc) (cond (Nat.beq pc 54) (some (.goto 4, 57, 58, 0, 0, 0)) none) (cond (Nat.beq pc 53) (some (.iconst 4, 54, 0, 0, 0, 0)) none))) (cond (Nat.ble 47 pc) (cond (Nat.ble 50 pc) (cond (Nat.beq pc 50) (some (.ifCond .eq 7, 53, 57, 0, 0, 0)) none) (cond (Nat.beq pc 47) (some (.invokevirtual 64, 50, 43, 0, 522, 0)) none)) (cond (Nat.ble 45 pc) (cond (Nat.beq pc 45) (some (.ldc 133, 47, 1, 6, 605, 0)) none) (cond (Nat.beq pc 44) (some (.aload_n 0, 45, 0, 0, 0, 0)) none)))) (cond (Nat.ble 36 pc) (cond (Nat.ble 42 pc) (cond (Nat.ble 43 pc) (cond (Nat.beq pc 43) (some (.ireturn, 44, 0, 0, 0, 0)) none) (cond (Nat.beq pc 42) (some (.iconst 3, 43, 0, 0, 0, 0)) none)) (cond (Nat.ble 39 pc) (cond (Nat.beq pc 39) (some (.ifCond .eq 5, 42, 44, 0, 0, 0)) none) (cond (Nat.beq pc 36) (some (.invokevirtual 64, 39, 43, 0, 522, 0)) none))) (cond (Nat.ble 33 pc) (cond (Nat.ble 34 pc) (cond (Nat.beq pc 34) (some (.ldc 131, 36, 1, 5, 604, 0)) none) (cond (Nat.beq pc 33) (some (.aload_n 0, 34, 0, 0, 0, 0)) none)) (cond (Nat.ble 32 pc) (cond (Nat.beq pc 32) (some (.ireturn, 33, 0, 0, 0, 0)) none) (cond (Nat.beq pc 31) (some (.iconst 2, 32, 0, 0, 0, 0)) none))))) (cond (Nat.ble 14 pc) (cond (Nat.ble 22 pc) (cond (Nat.ble 25 pc) (cond (Nat.ble 28 pc) (cond (Nat.beq pc 28) (some (.ifCond .eq 5, 31, 33, 0, 0, 0)) none) (cond (Nat.beq pc 25) (some (.invokevirtual 64, 28, 43, 0, 522, 0)) none)) (cond (Nat.ble 23 pc) (cond (Nat.beq pc 23) (some (.ldc 129, 25, 1, 4, 603, 0)) none) (cond (Nat.beq pc 22) (some (.aload_n 0, 23, 0, 0, 0, 0)) none))) (cond (Nat.ble 20 pc) (cond (Nat.ble 21 pc) (cond (Nat.beq pc 21) (some (.ireturn, 22, 0, 0, 0, 0)) none) (cond (Nat.beq pc 20) (some (.iconst 1, 21, 0, 0, 0, 0)) none)) (cond (Nat.ble 17 pc) (cond (Nat.beq pc 17) (some (.ifCond .eq 5, 20, 22, 0, 0, 0)) none) (cond (Nat.beq pc 14) (some (.invokevirtual 64, 17, 43, 0, 522, 0)) none)))) (cond (Nat.ble 9 pc) (cond (Nat.ble 11 pc) (cond (Nat.ble 12 pc) (cond (Nat.beq pc 12) (some (.ldc 127, 14, 1, 3, 602, 0)) none) (cond (Nat.beq pc 11) (some (.aload_n 0, 12, 0, 0, 0, 0)) none)) (cond (Nat.ble 10 pc) (cond (Nat.beq pc 10) (some (.ireturn, 11, 0, 0, 0, 0)) none) (cond (Nat.beq pc 9) (some (.iconst 0, 10, 0, 0, 0, 0)) none))) (cond (Nat.ble 3 pc) (cond (Nat.ble 6 pc) (cond (Nat.beq pc 6) (some (.ifCond .eq 5, 9, 11, 0, 0, 0)) none) (cond (Nat.beq pc 3) (some (.invokevirtual 64, 6, 43, 0, 522, 0)) none)) (cond (Nat.ble 1 pc) (cond (Nat.beq pc 1) (some (.ldc 125, 3, 1, 2, 601, 0)) none) (cond (Nat.beq pc 0) (some (.aload_n 0, 1, 0, 0, 0, 0)) none))))))
def rc_57 (pc : Nat) : Option RI := cond (Nat.ble 53 pc) none (cond (Nat.ble 26 pc) (cond (Nat.ble 39 pc) (cond (Nat.ble 46 pc) (cond (Nat.ble 49 pc) (cond (Nat.ble 52 pc) (cond (Nat.beq pc 52) (some (.ireturn, 53, 0, 0, 0, 0)) none) (cond (Nat.beq pc 49) (some (.invokevirtual 78, 52, 13, 0, 396, 0)) none)) (cond (Nat.ble 47 pc) (cond (Nat.beq pc 47) (some (.iload 4, 49, 0, 0, 0, 0)) none) (cond (Nat.beq pc 46) (some (.aload_n 0, 47, 0, 0, 0, 0)) none))) (cond (Nat.ble 40 pc) (cond (Nat.ble 43 pc) (cond (Nat.beq pc 43) (some (.goto 9, 46, 52, 0, 0, 0)) none) (cond (Nat.beq pc 40) (some (.invokevirtual 74, 43, 12, 0, 392, 0)) none)) (cond (Nat.beq pc 39) (some (.iconst 3, 40, 0, 0, 0, 0)) none))) (cond (Nat.ble 32 pc) (cond (Nat.ble 35 pc) (cond (Nat.ble 38 pc) (cond (Nat.beq pc 38) (some (.aload_n 0, 39, 0, 0, 0, 0)) none) (cond (Nat.beq pc 35) (some (.if_icmp .ne 11, 38, 46, 0, 0, 0)) none)) (cond (Nat.ble 34 pc) (cond (Nat.beq pc 34) (some (.iconst (-1), 35, 0, 0, 0, 0)) none) (cond (Nat.beq pc 32) (some (.iload 4, 34, 0, 0, 0, 0)) none))) (cond (Nat.ble 27 pc) (cond (Nat.ble 30 pc) (cond (Nat.beq pc 30) (some (.istore 4, 32, 0, 0, 0, 0)) none) (cond (Nat.beq pc 27) (some (.invokevirtual 234, 30, 58, 1, 610, 0)) none)) (cond (Nat.beq pc 26) (some (.iload_n 3, 27, 0, 0, 0, 0)) none)))) (cond (Nat.ble 13 pc) (cond (Nat.ble 18 pc) (cond (Nat.ble 22 pc) (cond (Nat.ble 25 pc) (cond (Nat.beq pc 25) (some (.iload_n 2, 26, 0, 0, 0, 0)) none) (cond (Nat.beq pc 22) (some (.getfield 42, 25, 9, 4, 361, 0)) none)) (cond (Nat.ble 21 pc) (cond (Nat.beq pc 21) (some (.aload_n 0, 22, 0, 0, 0, 0)) none) (cond (Nat.beq pc 18) (some (.getfield 33, 21, 9, 3, 360, 0)) none))) (cond (Nat.ble 16 pc) (cond (Nat.ble 17 pc) (cond (Nat.beq pc 17) (some (.aload_n 0, 18, 0, 0, 0, 0)) none) (cond (Nat.beq pc 16) (some (.ireturn, 17, 0, 0, 0, 0)) none)) (cond (Nat.beq pc 13) (some (.invokevirtual 74, 16, 12, 0, 392, 0)) none))) (cond (Nat.ble 7 pc) (cond (Nat.ble 11 pc) (cond (Nat.ble 12 pc) (cond (Nat.beq pc 12) (some (.iconst 4, 13, 0, 0, 0, 0)) none) (cond (Nat.beq pc 11) (some (.aload_n 0, 12, 0, 0, 0, 0)) none)) (cond (Nat.ble 8 pc) (cond (Nat.beq pc 8) (some (.ifCond .ne 9, 11, 17, 0, 0, 0)) none) (cond (Nat.beq pc 7) (some (.iload_n 1, 8, 0, 0, 0, 0)) none))) (cond (Nat.ble 1 pc) (cond (Nat.ble 4 pc) (cond (Nat.beq pc 4) (some (.invokevirtual 158, 7, 31, 1, 468, 0)) none) (cond (Nat.beq pc 1) (some (.getfield 12, 4, 9, 0, 357, 0)) none)) (cond (Nat.beq pc 0) (some (.aload_n 0, 1, 0, 0, 0, 0)) none)))))
def rc_58 (pc : Nat) : Option RI := cond (Nat.ble 171 pc) none (cond (Nat.ble 80 pc) (cond (Nat.ble 127 pc) (cond (Nat.ble 149 pc) (cond (Nat.ble 158 pc) (cond (Nat.ble 165 pc) (cond (Nat.ble 168 pc) (cond (Nat.ble 170 pc) (cond (Nat.beq pc 170) (some (.ireturn, 171, 0, 0, 0, 0)) none) (cond (Nat.beq pc 168) (some (.iload 4, 170, 0, 0, 0, 0)) none)) (cond (Nat.beq pc 165) (some (.goto (-74), 168, 91, 0, 0, 0)) none)) (cond (Nat.ble 159 pc) (cond (Nat.ble 162 pc) (cond (Nat.beq pc 162) (some (.iinc 5 1, 165, 0, 0, 0, 0)) none) (cond (Nat.beq pc 159) (some (.putfield 19, 162, 6, 2, 217, 0)) none)) (cond (Nat.beq pc 158) (some (.iadd, 159, 0, 0, 0, 0)) none))) (cond (Nat.ble 153 pc) (cond (Nat.ble 154 pc) (cond (Nat.ble 157 pc) (cond (Nat.beq pc 157) (some (.iconst 1, 158, 0, 0, 0, 0)) none) (cond (Nat.beq pc 154) (some (.getfield 19, 157, 6, 2, 217, 0)) none)) (cond (Nat.beq pc 153) (some (.dup, 154, 0, 0, 0, 0)) none)) (cond (Nat.ble 151 pc) (cond (Nat.ble 152 pc) (cond (Nat.beq pc 152) (some (.aload_n 0, 153, 0, 0, 0, 0)) none) (cond (Nat.beq pc 151) (some (.iastore, 152, 0, 0, 0, 0)) none)) (cond (Nat.beq pc 149) (some (.iload 4, 151, 0, 0, 0, 0)) none)))) (cond (Nat.ble 138 pc) (cond (Nat.ble 144 pc) (cond (Nat.ble 145 pc) (cond (Nat.ble 146 pc) (cond (Nat.beq pc 146) (some (.getfield 19, 149, 6, 2, 217, 0)) none) (cond (Nat.beq pc 145) (some (.aload_n 0, 146, 0, 0, 0, 0)) none)) (cond (Nat.beq pc 144) (some (.aaload, 145, 0, 0, 0, 0)) none)) (cond (Nat.ble 139 pc) (cond (Nat.ble 142 pc) (cond (Nat.beq pc 142) (some (.bipush 7, 144, 0, 0, 0, 0)) none) (cond (Nat.beq pc 139) (some (.getfield 11, 142, 6, 0, 215, 0)) none)) (cond (Nat.beq pc 138) (some (.aload_n 0, 139, 0, 0, 0, 0)) none))) (cond (Nat.ble 131 pc) (cond (Nat.ble 132 pc) (cond (Nat.ble 135 pc) (cond (Nat.beq pc 135) (some (.goto (-32), 138, 103, 0, 0, 0)) none) (cond (Nat.beq pc 132) (some (.iinc 6 1, 135, 0, 0, 0, 0)) none)) (cond (Nat.beq pc 131) (some (.iastore, 132, 0, 0, 0, 0)) none)) (cond (Nat.ble 128 pc) (cond (Nat.ble 130 pc) (cond (Nat.beq pc 130) (some (.iaload, 131, 0, 0, 0, 0)) none) (cond (Nat.beq pc 128) (some (.iload 5, 130, 0, 0, 0, 0)) none)) (cond (Nat.beq pc 127) (some (.aaload, 128, 0, 0, 0, 0)) none))))) (cond (Nat.ble 103 pc) (cond (Nat.ble 116 pc) (cond (Nat.ble 121 pc) (cond (Nat.ble 122 pc) (cond (Nat.ble 125 pc) (cond (Nat.beq pc 125) (some (.iload 6, 127, 0, 0, 0, 0)) none) (cond (Nat.beq pc 122) (some (.getfield 46, 125, 5, 3, 243, 0)) none)) (cond (Nat.beq pc 121) (some (.aload_n 1, 122, 0, 0, 0, 0)) none)) (cond (Nat.ble 117 pc) (cond (Nat.ble 118 pc) (cond (Nat.beq pc 118) (some (.getfield 19, 121, 6, 2, 217, 0)) none) (cond (Nat.beq pc 117) (some (.aload_n 0, 118, 0, 0, 0, 0)) none)) (cond (Nat.beq pc 116) (some (.aaload, 117, 0, 0, 0, 0)) none))) (cond (Nat.ble 110 pc) (cond (Nat.ble 111 pc) (cond (Nat.ble 114 pc) (cond (Nat.beq pc 114) (some (.iload 6, 116, 0, 0, 0, 0)) none) (cond (Nat.beq pc 111) (some (.getfield 11, 114, 6, 0, 215, 0)) none)) (cond (Nat.beq pc 110) (some (.aload_n 0, 111, 0, 0, 0, 0)) none)) (cond (Nat.ble 105 pc) (cond (Nat.ble 107 pc) (cond (Nat.beq pc 107) (some (.if_icmp .ge 31, 110, 138, 0, 0, 0)) none) (cond (Nat.beq pc 105) (some (.bipush 7, 107, 0, 0, 0, 0)) none)) (cond (Nat.beq pc 103) (some (.iload 6, 105, 0, 0, 0, 0)) none)))) (cond (Nat.ble 91 pc) (cond (Nat.ble 97 pc) (cond (Nat.ble 100 pc) (cond (Nat.ble 101 pc) (cond (Nat.beq pc 101) (some (.istore 6, 103, 0, 0, 0, 0)) none) (cond (Nat.beq pc 100) (some (.iconst 0, 101, 0, 0, 0, 0)) none)) (cond (Nat.beq pc 97) (some (.if_icmp .ge 71, 100, 168, 0, 0, 0)) none)) (cond (Nat.ble 93 pc) (cond (Nat.ble 94 pc) (cond (Nat.beq pc 94) (some (.getfield 41, 97, 5, 4, 245, 0)) none) (cond (Nat.beq pc 93) (some (.aload_n 1, 94, 0, 0, 0, 0)) none)) (cond (Nat.beq pc 91) (some (.iload 5, 93, 0, 0, 0, 0)) none))) (cond (Nat.ble 85 pc) (cond (Nat.ble 88 pc) (cond (Nat.ble 89 pc) (cond (Nat.beq pc 89) (some (.istore 5, 91, 0, 0, 0, 0)) none) (cond (Nat.beq pc 88) (some (.iconst 0, 89, 0, 0, 0, 0)) none)) (cond (Nat.beq pc 85) (some (.putfield 23, 88, 6, 3, 221, 0)) none)) (cond (Nat.ble 83 pc) (cond (Nat.ble 84 pc) (cond (Nat.beq pc 84) (some (.iadd, 85, 0, 0, 0, 0)) none) (cond (Nat.beq pc 83) (some (.iconst 1, 84, 0, 0, 0, 0)) none)) (cond (Nat.beq pc 80) (some (.getfield 23, 83, 6, 3, 221, 0)) none)))))) (cond (Nat.ble 43 pc) (cond (Nat.ble 61 pc) (cond (Nat.ble 71 pc) (cond (Nat.ble 77 pc) (cond (Nat.ble 78 pc) (cond (Nat.ble 79 pc) (cond (Nat.beq pc 79) (some (.dup, 80, 0, 0, 0, 0)) none) (cond (Nat.beq pc 78) (some (.aload_n 0, 79, 0, 0, 0, 0)) none)) (cond (Nat.beq pc 77) (some (.iastore, 78, 0, 0, 0, 0)) none)) (cond (Nat.ble 73 pc) (cond (Nat.ble 74 pc) (cond (Nat.beq pc 74) (some (.getfield 19, 77, 6, 2, 217, 0)) none) (cond (Nat.beq pc 73) (some (.aload_n 0, 74, 0, 0, 0, 0)) none)) (cond (Nat.beq pc 71) (some (.iload 4, 73, 0, 0, 0, 0)) none))) (cond (Nat.ble 66 pc) (cond (Nat.ble 69 pc) (cond (Nat.ble 70 pc) (cond (Nat.beq pc 70) (some (.aaload, 71, 0, 0, 0, 0)) none) (cond (Nat.beq pc 69) (some (.iconst 3, 70, 0, 0, 0, 0)) none)) (cond (Nat.beq pc 66) (some (.getfield 16, 69, 6, 1, 216, 0)) none)) (cond (Nat.ble 64 pc) (cond (Nat.ble 65 pc) (cond (Nat.beq pc 65) (some (.aload_n 0, 66, 0, 0, 0, 0)) none) (cond (Nat.beq pc 64) (some (.iastore, 65, 0, 0, 0, 0)) none)) (cond (Nat.beq pc 61) (some (.getfield 41, 64, 5, 4, 245, 0)) none)))) (cond (Nat.ble 52 pc) (cond (Nat.ble 57 pc) (cond (Nat.ble 58 pc) (cond (Nat.ble 60 pc) (cond (Nat.beq pc 60) (some (.aload_n 1, 61, 0, 0, 0, 0)) none) (cond (Nat.beq pc 58) (some (.iload 4, 60, 0, 0, 0, 0)) none)) (cond (Nat.beq pc 57) (some (.aaload, 58, 0, 0, 0, 0)) none)) (cond (Nat.ble 53 pc) (cond (Nat.ble 56 pc) (cond (Nat.beq pc 56) (some (.iconst 2, 57, 0, 0, 0, 0)) none) (cond (Nat.beq pc 53) (some (.getfield 16, 56, 6, 1, 216, 0)) none)) (cond (Nat.beq pc 52) (some (.aload_n 0, 53, 0, 0, 0, 0)) none))) (cond (Nat.ble 48 pc) (cond (Nat.ble 50 pc) (cond (Nat.ble 51 pc) (cond (Nat.beq pc 51) (some (.iastore, 52, 0, 0, 0, 0)) none) (cond (Nat.beq pc 50) (some (.iload_n 3, 51, 0, 0, 0, 0)) none)) (cond (Nat.beq pc 48) (some (.iload 4, 50, 0, 0, 0, 0)) none)) (cond (Nat.ble 46 pc) (cond (Nat.ble 47 pc) (cond (Nat.beq pc 47) (some (.aaload, 48, 0, 0, 0, 0)) none) (cond (Nat.beq pc 46) (some (.iconst 1, 47, 0, 0, 0, 0)) none)) (cond (Nat.beq pc 43) (some (.getfield 16, 46, 6, 1, 216, 0)) none))))) (cond (Nat.ble 25 pc) (cond (Nat.ble 36 pc) (cond (Nat.ble 40 pc) (cond (Nat.ble 41 pc) (cond (Nat.ble 42 pc) (cond (Nat.beq pc 42) (some (.aload_n 0, 43, 0, 0, 0, 0)) none) (cond (Nat.beq pc 41) (some (.iastore, 42, 0, 0, 0, 0)) none)) (cond (Nat.beq pc 40) (some (.iload_n 2, 41, 0, 0, 0, 0)) none)) (cond (Nat.ble 37 pc) (cond (Nat.ble 38 pc) (cond (Nat.beq pc 38) (some (.iload 4, 40, 0, 0, 0, 0)) none) (cond (Nat.beq pc 37) (some (.aaload, 38, 0, 0, 0, 0)) none)) (cond (Nat.beq pc 36) (some (.iconst 0, 37, 0, 0, 0, 0)) none))) (cond (Nat.ble 30 pc) (cond (Nat.ble 32 pc) (cond (Nat.ble 33 pc) (cond (Nat.beq pc 33) (some (.getfield 16, 36, 6, 1, 216, 0)) none) (cond (Nat.beq pc 32) (some (.aload_n 0, 33, 0, 0, 0, 0)) none)) (cond (Nat.beq pc 30) (some (.istore 4, 32, 0, 0, 0, 0)) none)) (cond (Nat.ble 26 pc) (cond (Nat.ble 27 pc) (cond (Nat.beq pc 27) (some (.getfield 23, 30, 6, 3, 221, 0)) none) (cond (Nat.beq pc 26) (some (.aload_n 0, 27, 0, 0, 0, 0)) none)) (cond (Nat.beq pc 25) (some (.ireturn, 26, 0, 0, 0, 0)) none)))) (cond (Nat.ble 13 pc) (cond (Nat.ble 18 pc) (cond (Nat.ble 21 pc) (cond (Nat.ble 24 pc) (cond (Nat.beq pc 24) (some (.iconst (-1), 25, 0, 0, 0, 0)) none) (cond (Nat.beq pc 21) (some (.if_icmp .le 5, 24, 26, 0, 0, 0)) none)) (cond (Nat.beq pc 18) (some (.sipush 150, 21, 0, 0, 0, 0)) none)) (cond (Nat.ble 14 pc) (cond (Nat.ble 17 pc) (cond (Nat.beq pc 17) (some (.iadd, 18, 0, 0, 0, 0)) none) (cond (Nat.beq pc 14) (some (.getfield 41, 17, 5, 4, 245, 0)) none)) (cond (Nat.beq pc 13) (some (.aload_n 1, 14, 0, 0, 0, 0)) none))) (cond (Nat.ble 6 pc) (cond (Nat.ble 9 pc) (cond (Nat.ble 10 pc) (cond (Nat.beq pc 10) (some (.getfield 19, 13, 6, 2, 217, 0)) none) (cond (Nat.beq pc 9) (some (.aload_n 0, 10, 0, 0, 0, 0)) none)) (cond (Nat.beq pc 6) (some (.if_icmp .ge 18, 9, 24, 0, 0, 0)) none)) (cond (Nat.ble 1 pc) (cond (Nat.ble 4 pc) (cond (Nat.beq pc 4) (some (.bipush 20, 6, 0, 0, 0, 0)) none) (cond (Nat.beq pc 1) (some (.getfield 23, 4, 6, 3, 221, 0)) none)) (cond (Nat.beq pc 0) (some (.aload_n 0, 1, 0, 0, 0, 0)) none)))))))
def rc_59 (pc : Nat) : Option RI := cond (Nat.ble 50 pc) none (cond (Nat.ble 28 pc) (cond (Nat.ble 39 pc) (cond (Nat.ble 44 pc) (cond (Nat.ble 46 pc) (cond (Nat.ble 49 pc) (cond (Nat.beq pc 49) (some (.ireturn, 50, 0, 0, 0, 0)) none) (cond (Nat.beq pc 46) (some (.invokevirtual 137, 49, 57, 0, 606, 0)) none)) (cond (Nat.ble 45 pc) (cond (Nat.beq pc 45) (some (.iload_n 1, 46, 0, 0, 0, 0)) none) (cond (Nat.beq pc 44) (some (.iconst (-1), 45, 0, 0, 0, 0)) none))) (cond (Nat.ble 40 pc) (cond (Nat.ble 41 pc) (cond (Nat.beq pc 41) (some (.invokevirtual 134, 44, 40, 1, 507, 0)) none) (cond (Nat.beq pc 40) (some (.iconst (-1), 41, 0, 0, 0, 0)) none)) (cond (Nat.beq pc 39) (some (.iload_n 2, 40, 0, 0, 0, 0)) none))) (cond (Nat.ble 33 pc) (cond (Nat.ble 35 pc) (cond (Nat.ble 36 pc) (cond (Nat.beq pc 36) (some (.getfield 42, 39, 9, 4, 361, 0)) none) (cond (Nat.beq pc 35) (some (.aload_n 0, 36, 0, 0, 0, 0)) none)) (cond (Nat.ble 34 pc) (cond (Nat.beq pc 34) (some (.aload_n 0, 35, 0, 0, 0, 0)) none) (cond (Nat.beq pc 33) (some (.ireturn, 34, 0, 0, 0, 0)) none))) (cond (Nat.ble 29 pc) (cond (Nat.ble 30 pc) (cond (Nat.beq pc 30) (some (.invokevirtual 74, 33, 12, 0, 392, 0)) none) (cond (Nat.beq pc 29) (some (.iconst 2, 30, 0, 0, 0, 0)) none)) (cond (Nat.beq pc 28) (some (.aload_n 0, 29, 0, 0, 0, 0)) none)))) (cond (Nat.ble 13 pc) (cond (Nat.ble 18 pc) (cond (Nat.ble 22 pc) (cond (Nat.ble 25 pc) (cond (Nat.beq pc 25) (some (.ifCond .ne 9, 28, 34, 0, 0, 0)) none) (cond (Nat.beq pc 22) (some (.invokevirtual 95, 25, 19, 1, 421, 0)) none)) (cond (Nat.ble 21 pc) (cond (Nat.beq pc 21) (some (.iload_n 2, 22, 0, 0, 0, 0)) none) (cond (Nat.beq pc 18) (some (.getfield 12, 21, 9, 0, 357, 0)) none))) (cond (Nat.ble 16 pc) (cond (Nat.ble 17 pc) (cond (Nat.beq pc 17) (some (.aload_n 0, 18, 0, 0, 0, 0)) none) (cond (Nat.beq pc 16) (some (.ireturn, 17, 0, 0, 0, 0)) none)) (cond (Nat.beq pc 13) (some (.invokevirtual 74, 16, 12, 0, 392, 0)) none))) (cond (Nat.ble 5 pc) (cond (Nat.ble 11 pc) (cond (Nat.ble 12 pc) (cond (Nat.beq pc 12) (some (.iconst 1, 13, 0, 0, 0, 0)) none) (cond (Nat.beq pc 11) (some (.aload_n 0, 12, 0, 0, 0, 0)) none)) (cond (Nat.ble 8 pc) (cond (Nat.beq pc 8) (some (.ifCond .ne 9, 11, 17, 0, 0, 0)) none) (cond (Nat.beq pc 5) (some (.invokevirtual 120, 8, 33, 1, 476, 0)) none))) (cond (Nat.ble 1 pc) (cond (Nat.ble 4 pc) (cond (Nat.beq pc 4) (some (.iload_n 1, 5, 0, 0, 0, 0)) none) (cond (Nat.beq pc 1) (some (.getfield 26, 4, 9, 2, 359, 0)) none)) (cond (Nat.beq pc 0) (some (.aload_n 0, 1, 0, 0, 0, 0)) none)))))
def rc_60 (pc : Nat) : Option RI := cond (Nat.ble 8 pc) none (cond (Nat.ble 4 pc) (cond (Nat.ble 7 pc) (cond (Nat.beq pc 7) (some (.ireturn, 8, 0, 0, 0, 0)) none) (cond (Nat.beq pc 4) (some (.getfield 141, 7, 5, 5, 247, 0)) none)) (cond (Nat.ble 1 pc) (cond (Nat.beq pc 1) (some (.getfield 42, 4, 9, 4, 361, 0)) none) (cond (Nat.beq pc 0) (some (.aload_n 0, 1, 0, 0, 0, 0)) none)))
def rc_61 (pc : Nat) : Option RI := cond (Nat.ble 20 pc) none (cond (Nat.ble 9 pc) (cond (Nat.ble 15 pc) (cond (Nat.ble 18 pc) (cond (Nat.ble 19 pc) (cond (Nat.beq pc 19) (some (.ireturn, 20, 0, 0, 0, 0)) none) (cond (Nat.beq pc 18) (some (.iconst (-1), 19, 0, 0, 0, 0)) none)) (cond (Nat.beq pc 15) (some (.goto 4, 18, 19, 0, 0, 0)) none)) (cond (Nat.ble 12 pc) (cond (Nat.beq pc 12) (some (.getfield 144, 15, 5, 6, 249, 0)) none) (cond (Nat.beq pc 9) (some (.getfield 42, 12, 9, 4, 361, 0)) none))) (cond (Nat.ble 4 pc) (cond (Nat.ble 5 pc) (cond (Nat.ble 8 pc) (cond (Nat.beq pc 8) (some (.aload_n 0, 9, 0, 0, 0, 0)) none) (cond (Nat.beq pc 5) (some (.if_icmp .ne 13, 8, 18, 0, 0, 0)) none)) (cond (Nat.beq pc 4) (some (.iconst 4, 5, 0, 0, 0, 0)) none)) (cond (Nat.ble 1 pc) (cond (Nat.beq pc 1) (some (.getfield 71, 4, 9, 9, 366, 0)) none) (cond (Nat.beq pc 0) (some (.aload_n 0, 1, 0, 0, 0, 0)) none))))
def rc_62 (pc : Nat) : Option RI := cond (Nat.ble 10 pc) none (cond (Nat.ble 5 pc) (cond (Nat.ble 6 pc) (cond (Nat.ble 9 pc) (cond (Nat.beq pc 9) (some (.ireturn, 10, 0, 0, 0, 0)) none) (cond (Nat.beq pc 6) (some (.invokevirtual 147, 9, 63, 1, 630, 0)) none)) (cond (Nat.beq pc 5) (some (.iload_n 2, 6, 0, 0, 0, 0)) none)) (cond (Nat.ble 1 pc) (cond (Nat.ble 4 pc) (cond (Nat.beq pc 4) (some (.iload_n 1, 5, 0, 0, 0, 0)) none) (cond (Nat.beq pc 1) (some (.getfield 33, 4, 9, 3, 360, 0)) none)) (cond (Nat.beq pc 0) (some (.aload_n 0, 1, 0, 0, 0, 0)) none)))
def rc_63 (pc : Nat) : Option RI := cond (Nat.ble 45 pc) none (cond (Nat.ble 26 pc) (cond (Nat.ble 36 pc) (cond (Nat.ble 39 pc) (cond (Nat.ble 43 pc) (cond (Nat.ble 44 pc) (cond (Nat.beq pc 44) (some (.ireturn, 45, 0, 0, 0, 0)) none) (cond (Nat.beq pc 43) (some (.iconst (-1), 44, 0, 0, 0, 0)) none)) (cond (Nat.ble 40 pc) (cond (Nat.beq pc 40) (some (.goto 4, 43, 44, 0, 0, 0)) none) (cond (Nat.beq pc 39) (some (.iaload, 40, 0, 0, 0, 0)) none))) (cond (Nat.ble 37 pc) (cond (Nat.ble 38 pc) (cond (Nat.beq pc 38) (some (.iload_n 1, 39, 0, 0, 0, 0)) none) (cond (Nat.beq pc 37) (some (.aaload, 38, 0, 0, 0, 0)) none)) (cond (Nat.beq pc 36) (some (.iload_n 2, 37, 0, 0, 0, 0)) none))) (cond (Nat.ble 29 pc) (cond (Nat.ble 32 pc) (cond (Nat.ble 33 pc) (cond (Nat.beq pc 33) (some (.getfield 11, 36, 6, 0, 215, 0)) none) (cond (Nat.beq pc 32) (some (.aload_n 0, 33, 0, 0, 0, 0)) none)) (cond (Nat.beq pc 29) (some (.ifCond .eq 14, 32, 43, 0, 0, 0)) none)) (cond (Nat.ble 27 pc) (cond (Nat.ble 28 pc) (cond (Nat.beq pc 28) (some (.iload_n 3, 29, 0, 0, 0, 0)) none) (cond (Nat.beq pc 27) (some (.istore_n 3, 28, 0, 0, 0, 0)) none)) (cond (Nat.beq pc 26) (some (.iconst 0, 27, 0, 0, 0, 0)) none)))) (cond (Nat.ble 12 pc) (cond (Nat.ble 17 pc) (cond (Nat.ble 22 pc) (cond (Nat.ble 23 pc) (cond (Nat.beq pc 23) (some (.goto 4, 26, 27, 0, 0, 0)) none) (cond (Nat.beq pc 22) (some (.iconst 1, 23, 0, 0, 0, 0)) none)) (cond (Nat.ble 19 pc) (cond (Nat.beq pc 19) (some (.if_icmp .ge 7, 22, 26, 0, 0, 0)) none) (cond (Nat.beq pc 17) (some (.bipush 8, 19, 0, 0, 0, 0)) none))) (cond (Nat.ble 13 pc) (cond (Nat.ble 16 pc) (cond (Nat.beq pc 16) (some (.iload_n 2, 17, 0, 0, 0, 0)) none) (cond (Nat.beq pc 13) (some (.ifCond .lt 13, 16, 26, 0, 0, 0)) none)) (cond (Nat.beq pc 12) (some (.iload_n 2, 13, 0, 0, 0, 0)) none))) (cond (Nat.ble 5 pc) (cond (Nat.ble 6 pc) (cond (Nat.ble 9 pc) (cond (Nat.beq pc 9) (some (.if_icmp .ge 17, 12, 26, 0, 0, 0)) none) (cond (Nat.beq pc 6) (some (.getfield 19, 9, 6, 2, 217, 0)) none)) (cond (Nat.beq pc 5) (some (.aload_n 0, 6, 0, 0, 0, 0)) none)) (cond (Nat.ble 1 pc) (cond (Nat.ble 4 pc) (cond (Nat.beq pc 4) (some (.iload_n 1, 5, 0, 0, 0, 0)) none) (cond (Nat.beq pc 1) (some (.ifCond .lt 25, 4, 26, 0, 0, 0)) none)) (cond (Nat.beq pc 0) (some (.iload_n 1, 1, 0, 0, 0, 0)) none)))))
def rc_64 (pc : Nat) : Option RI := cond (Nat.ble 10 pc) none (cond (Nat.ble 5 pc) (cond (Nat.ble 6 pc) (cond (Nat.ble 9 pc) (cond (Nat.beq pc 9) (some (.ireturn, 10, 0, 0, 0, 0)) none) (cond (Nat.beq pc 6) (some (.invokevirtual 151, 9, 65, 1, 638, 0)) none)) (cond (Nat.beq pc 5) (some (.iload_n 2, 6, 0, 0, 0, 0)) none)) (cond (Nat.ble 1 pc) (cond (Nat.ble 4 pc) (cond (Nat.beq pc 4) (some (.iload_n 1, 5, 0, 0, 0, 0)) none) (cond (Nat.beq pc 1) (some (.getfield 33, 4, 9, 3, 360, 0)) none)) (cond (Nat.beq pc 0) (some (.aload_n 0, 1, 0, 0, 0, 0)) none)))
def rc_65 (pc : Nat) : Option RI := cond (Nat.ble 44 pc) none (cond (Nat.ble 25 pc) (cond (Nat.ble 35 pc) (cond (Nat.ble 38 pc) (cond (Nat.ble 42 pc) (cond (Nat.ble 43 pc) (cond (Nat.beq pc 43) (some (.ireturn, 44, 0, 0, 0, 0)) none) (cond (Nat.beq pc 42) (some (.iconst (-1), 43, 0, 0, 0, 0)) none)) (cond (Nat.ble 39 pc) (cond (Nat.beq pc 39) (some (.goto 4, 42, 43, 0, 0, 0)) none) (cond (Nat.beq pc 38) (some (.iaload, 39, 0, 0, 0, 0)) none))) (cond (Nat.ble 36 pc) (cond (Nat.ble 37 pc) (cond (Nat.beq pc 37) (some (.iload_n 1, 38, 0, 0, 0, 0)) none) (cond (Nat.beq pc 36) (some (.aaload, 37, 0, 0, 0, 0)) none)) (cond (Nat.beq pc 35) (some (.iload_n 2, 36, 0, 0, 0, 0)) none))) (cond (Nat.ble 28 pc) (cond (Nat.ble 31 pc) (cond (Nat.ble 32 pc) (cond (Nat.beq pc 32) (some (.getfield 16, 35, 6, 1, 216, 0)) none) (cond (Nat.beq pc 31) (some (.aload_n 0, 32, 0, 0, 0, 0)) none)) (cond (Nat.beq pc 28) (some (.ifCond .eq 14, 31, 42, 0, 0, 0)) none)) (cond (Nat.ble 26 pc) (cond (Nat.ble 27 pc) (cond (Nat.beq pc 27) (some (.iload_n 3, 28, 0, 0, 0, 0)) none) (cond (Nat.beq pc 26) (some (.istore_n 3, 27, 0, 0, 0, 0)) none)) (cond (Nat.beq pc 25) (some (.iconst 0, 26, 0, 0, 0, 0)) none)))) (cond (Nat.ble 12 pc) (cond (Nat.ble 17 pc) (cond (Nat.ble 21 pc) (cond (Nat.ble 22 pc) (cond (Nat.beq pc 22) (some (.goto 4, 25, 26, 0, 0, 0)) none) (cond (Nat.beq pc 21) (some (.iconst 1, 22, 0, 0, 0, 0)) none)) (cond (Nat.ble 18 pc) (cond (Nat.beq pc 18) (some (.if_icmp .ge 7, 21, 25, 0, 0, 0)) none) (cond (Nat.beq pc 17) (some (.iconst 4, 18, 0, 0, 0, 0)) none))) (cond (Nat.ble 13 pc) (cond (Nat.ble 16 pc) (cond (Nat.beq pc 16) (some (.iload_n 2, 17, 0, 0, 0, 0)) none) (cond (Nat.beq pc 13) (some (.ifCond .lt 12, 16, 25, 0, 0, 0)) none)) (cond (Nat.beq pc 12) (some (.iload_n 2, 13, 0, 0, 0, 0)) none))) (cond (Nat.ble 5 pc) (cond (Nat.ble 6 pc) (cond (Nat.ble 9 pc) (cond (Nat.beq pc 9) (some (.if_icmp .ge 16, 12, 25, 0, 0, 0)) none) (cond (Nat.beq pc 6) (some (.getfield 23, 9, 6, 3, 221, 0)) none)) (cond (Nat.beq pc 5) (some (.aload_n 0, 6, 0, 0, 0, 0)) none)) (cond (Nat.ble 1 pc) (cond (Nat.ble 4 pc) (cond (Nat.beq pc 4) (some (.iload_n 1, 5, 0, 0, 0, 0)) none) (cond (Nat.beq pc 1) (some (.ifCond .lt 24, 4, 25, 0, 0, 0)) none)) (cond (Nat.beq pc 0) (some (.iload_n 1, 1, 0, 0, 0, 0)) none)))))
def rc_66 (pc : Nat) : Option RI := cond (Nat.ble 76 pc) none (cond (Nat.ble 39 pc) (cond (Nat.ble 55 pc) (cond (Nat.ble 65 pc) (cond (Nat.ble 70 pc) (cond (Nat.ble 72 pc) (cond (Nat.ble 75 pc) (cond (Nat.beq pc 75) (some (.ireturn, 76, 0, 0, 0, 0)) none) (cond (Nat.beq pc 72) (some (.invokevirtual 78, 75, 13, 0, 396, 0)) none)) (cond (Nat.beq pc 70) (some (.iload 4, 72, 0, 0, 0, 0)) none)) (cond (Nat.ble 67 pc) (cond (Nat.beq pc 67) (some (.goto 5, 70, 72, 0, 0, 0)) none) (cond (Nat.beq pc 65) (some (.bipush (-2), 67, 0, 0, 0, 0)) none))) (cond (Nat.ble 59 pc) (cond (Nat.ble 61 pc) (cond (Nat.ble 62 pc) (cond (Nat.beq pc 62) (some (.if_icmp .ne 8, 65, 70, 0, 0, 0)) none) (cond (Nat.beq pc 61) (some (.iconst (-1), 62, 0, 0, 0, 0)) none)) (cond (Nat.beq pc 59) (some (.iload 4, 61, 0, 0, 0, 0)) none)) (cond (Nat.ble 58 pc) (cond (Nat.beq pc 58) (some (.aload_n 0, 59, 0, 0, 0, 0)) none) (cond (Nat.beq pc 55) (some (.invokevirtual 158, 58, 31, 1, 468, 0)) none)))) (cond (Nat.ble 45 pc) (cond (Nat.ble 49 pc) (cond (Nat.ble 51 pc) (cond (Nat.ble 52 pc) (cond (Nat.beq pc 52) (some (.getfield 12, 55, 9, 0, 357, 0)) none) (cond (Nat.beq pc 51) (some (.aload_n 0, 52, 0, 0, 0, 0)) none)) (cond (Nat.beq pc 49) (some (.istore 4, 51, 0, 0, 0, 0)) none)) (cond (Nat.ble 46 pc) (cond (Nat.beq pc 46) (some (.invokevirtual 154, 49, 25, 1, 646, 0)) none) (cond (Nat.beq pc 45) (some (.iload_n 1, 46, 0, 0, 0, 0)) none))) (cond (Nat.ble 41 pc) (cond (Nat.ble 44 pc) (cond (Nat.beq pc 44) (some (.iconst 0, 45, 0, 0, 0, 0)) none) (cond (Nat.beq pc 41) (some (.getfield 12, 44, 9, 0, 357, 0)) none)) (cond (Nat.ble 40 pc) (cond (Nat.beq pc 40) (some (.aload_n 0, 41, 0, 0, 0, 0)) none) (cond (Nat.beq pc 39) (some (.aload_n 3, 40, 0, 0, 0, 0)) none))))) (cond (Nat.ble 17 pc) (cond (Nat.ble 28 pc) (cond (Nat.ble 32 pc) (cond (Nat.ble 35 pc) (cond (Nat.ble 38 pc) (cond (Nat.beq pc 38) (some (.astore_n 3, 39, 0, 0, 0, 0)) none) (cond (Nat.beq pc 35) (some (.getfield 102, 38, 8, 0, 180, 0)) none)) (cond (Nat.beq pc 32) (some (.getfield 19, 35, 9, 1, 358, 0)) none)) (cond (Nat.ble 31 pc) (cond (Nat.beq pc 31) (some (.aload_n 0, 32, 0, 0, 0, 0)) none) (cond (Nat.beq pc 28) (some (.goto 10, 31, 38, 0, 0, 0)) none))) (cond (Nat.ble 21 pc) (cond (Nat.ble 22 pc) (cond (Nat.ble 25 pc) (cond (Nat.beq pc 25) (some (.getfield 123, 28, 2, 0, 200, 0)) none) (cond (Nat.beq pc 22) (some (.getfield 26, 25, 9, 2, 359, 0)) none)) (cond (Nat.beq pc 21) (some (.aload_n 0, 22, 0, 0, 0, 0)) none)) (cond (Nat.ble 18 pc) (cond (Nat.beq pc 18) (some (.ifCond .eq 13, 21, 31, 0, 0, 0)) none) (cond (Nat.beq pc 17) (some (.iload_n 2, 18, 0, 0, 0, 0)) none)))) (cond (Nat.ble 8 pc) (cond (Nat.ble 12 pc) (cond (Nat.ble 13 pc) (cond (Nat.ble 16 pc) (cond (Nat.beq pc 16) (some (.ireturn, 17, 0, 0, 0, 0)) none) (cond (Nat.beq pc 13) (some (.invokevirtual 74, 16, 12, 0, 392, 0)) none)) (cond (Nat.beq pc 12) (some (.iconst 2, 13, 0, 0, 0, 0)) none)) (cond (Nat.ble 11 pc) (cond (Nat.beq pc 11) (some (.aload_n 0, 12, 0, 0, 0, 0)) none) (cond (Nat.beq pc 8) (some (.ifCond .ne 9, 11, 17, 0, 0, 0)) none))) (cond (Nat.ble 4 pc) (cond (Nat.ble 5 pc) (cond (Nat.beq pc 5) (some (.invokevirtual 95, 8, 19, 1, 421, 0)) none) (cond (Nat.beq pc 4) (some (.iload_n 1, 5, 0, 0, 0, 0)) none)) (cond (Nat.ble 1 pc) (cond (Nat.beq pc 1) (some (.getfield 12, 4, 9, 0, 357, 0)) none) (cond (Nat.beq pc 0) (some (.aload_n 0, 1, 0, 0, 0, 0)) none))))))
def rc_67 (pc : Nat) : Option RI := cond (Nat.ble 21 pc) none (cond (Nat.ble 11 pc) (cond (Nat.ble 16 pc) (cond (Nat.ble 19 pc) (cond (Nat.ble 20 pc) (cond (Nat.beq pc 20) (some (.ireturn, 21, 0, 0, 0, 0)) none) (cond (Nat.beq pc 19) (some (.iconst (-1), 20, 0, 0, 0, 0)) none)) (cond (Nat.beq pc 16) (some (.goto 4, 19, 20, 0, 0, 0)) none)) (cond (Nat.ble 12 pc) (cond (Nat.ble 13 pc) (cond (Nat.beq pc 13) (some (.invokevirtual 162, 16, 68, 0, 652, 0)) none) (cond (Nat.beq pc 12) (some (.iload_n 1, 13, 0, 0, 0, 0)) none)) (cond (Nat.beq pc 11) (some (.aload_n 0, 12, 0, 0, 0, 0)) none))) (cond (Nat.ble 4 pc) (cond (Nat.ble 5 pc) (cond (Nat.ble 8 pc) (cond (Nat.beq pc 8) (some (.ifCond .eq 11, 11, 19, 0, 0, 0)) none) (cond (Nat.beq pc 5) (some (.invokevirtual 161, 8, 29, 1, 651, 0)) none)) (cond (Nat.beq pc 4) (some (.iload_n 1, 5, 0, 0, 0, 0)) none)) (cond (Nat.ble 1 pc) (cond (Nat.beq pc 1) (some (.getfield 19, 4, 9, 1, 358, 0)) none) (cond (Nat.beq pc 0) (some (.aload_n 0, 1, 0, 0, 0, 0)) none))))
def rc_68 (pc : Nat) : Option RI := cond (Nat.ble 47 pc) none (cond (Nat.ble 21 pc) (cond (Nat.ble 34 pc) (cond (Nat.ble 39 pc) (cond (Nat.ble 45 pc) (cond (Nat.ble 46 pc) (cond (Nat.beq pc 46) (some (.ireturn, 47, 0, 0, 0, 0)) none) (cond (Nat.beq pc 45) (some (.iload_n 2, 46, 0, 0, 0, 0)) none)) (cond (Nat.ble 42 pc) (cond (Nat.beq pc 42) (some (.goto (-38), 45, 4, 0, 0, 0)) none) (cond (Nat.beq pc 39) (some (.iinc 3 1, 42, 0, 0, 0, 0)) none))) (cond (Nat.ble 37 pc) (cond (Nat.ble 38 pc) (cond (Nat.beq pc 38) (some (.istore_n 2, 39, 0, 0, 0, 0)) none) (cond (Nat.beq pc 37) (some (.iadd, 38, 0, 0, 0, 0)) none)) (cond (Nat.beq pc 34) (some (.invokevirtual 147, 37, 63, 1, 630, 0)) none))) (cond (Nat.ble 28 pc) (cond (Nat.ble 32 pc) (cond (Nat.ble 33 pc) (cond (Nat.beq pc 33) (some (.iconst 0, 34, 0, 0, 0, 0)) none) (cond (Nat.beq pc 32) (some (.iload_n 3, 33, 0, 0, 0, 0)) none)) (cond (Nat.ble 29 pc) (cond (Nat.beq pc 29) (some (.getfield 33, 32, 9, 3, 360, 0)) none) (cond (Nat.beq pc 28) (some (.aload_n 0, 29, 0, 0, 0, 0)) none))) (cond (Nat.ble 24 pc) (cond (Nat.ble 27 pc) (cond (Nat.beq pc 27) (some (.iload_n 2, 28, 0, 0, 0, 0)) none) (cond (Nat.beq pc 24) (some (.ifCond .eq 15, 27, 39, 0, 0, 0)) none)) (cond (Nat.beq pc 21) (some (.invokevirtual 238, 24, 69, 1, 656, 0)) none)))) (cond (Nat.ble 6 pc) (cond (Nat.ble 15 pc) (cond (Nat.ble 19 pc) (cond (Nat.ble 20 pc) (cond (Nat.beq pc 20) (some (.iload_n 1, 21, 0, 0, 0, 0)) none) (cond (Nat.beq pc 19) (some (.iload_n 3, 20, 0, 0, 0, 0)) none)) (cond (Nat.ble 16 pc) (cond (Nat.beq pc 16) (some (.getfield 33, 19, 9, 3, 360, 0)) none) (cond (Nat.beq pc 15) (some (.aload_n 0, 16, 0, 0, 0, 0)) none))) (cond (Nat.ble 9 pc) (cond (Nat.ble 12 pc) (cond (Nat.beq pc 12) (some (.if_icmp .ge 33, 15, 45, 0, 0, 0)) none) (cond (Nat.beq pc 9) (some (.getfield 201, 12, 6, 2, 220, 0)) none)) (cond (Nat.beq pc 6) (some (.getfield 33, 9, 9, 3, 360, 0)) none))) (cond (Nat.ble 3 pc) (cond (Nat.ble 4 pc) (cond (Nat.ble 5 pc) (cond (Nat.beq pc 5) (some (.aload_n 0, 6, 0, 0, 0, 0)) none) (cond (Nat.beq pc 4) (some (.iload_n 3, 5, 0, 0, 0, 0)) none)) (cond (Nat.beq pc 3) (some (.istore_n 3, 4, 0, 0, 0, 0)) none)) (cond (Nat.ble 1 pc) (cond (Nat.ble 2 pc) (cond (Nat.beq pc 2) (some (.iconst 0, 3, 0, 0, 0, 0)) none) (cond (Nat.beq pc 1) (some (.istore_n 2, 2, 0, 0, 0, 0)) none)) (cond (Nat.beq pc 0) (some (.iconst 0, 1, 0, 0, 0, 0)) none)))))
def rc_69 (pc : Nat) : Option RI := cond (Nat.ble 24 pc) none (cond (Nat.ble 11 pc) (cond (Nat.ble 18 pc) (cond (Nat.ble 22 pc) (cond (Nat.ble 23 pc) (cond (Nat.beq pc 23) (some (.ireturn, 24, 0, 0, 0, 0)) none) (cond (Nat.beq pc 22) (some (.iconst 0, 23, 0, 0, 0, 0)) none)) (cond (Nat.ble 19 pc) (cond (Nat.beq pc 19) (some (.goto 4, 22, 23, 0, 0, 0)) none) (cond (Nat.beq pc 18) (some (.iconst 1, 19, 0, 0, 0, 0)) none))) (cond (Nat.ble 12 pc) (cond (Nat.ble 15 pc) (cond (Nat.beq pc 15) (some (.ifCond .eq 7, 18, 22, 0, 0, 0)) none) (cond (Nat.beq pc 12) (some (.invokevirtual 37, 15, 70, 0, 661, 0)) none)) (cond (Nat.beq pc 11) (some (.iload_n 1, 12, 0, 0, 0, 0)) none))) (cond (Nat.ble 3 pc) (cond (Nat.ble 7 pc) (cond (Nat.ble 10 pc) (cond (Nat.beq pc 10) (some (.aload_n 0, 11, 0, 0, 0, 0)) none) (cond (Nat.beq pc 7) (some (.if_icmp .ne 15, 10, 22, 0, 0, 0)) none)) (cond (Nat.ble 6 pc) (cond (Nat.beq pc 6) (some (.iload_n 2, 7, 0, 0, 0, 0)) none) (cond (Nat.beq pc 3) (some (.invokevirtual 26, 6, 63, 0, 660, 0)) none))) (cond (Nat.ble 1 pc) (cond (Nat.ble 2 pc) (cond (Nat.beq pc 2) (some (.iconst 5, 3, 0, 0, 0, 0)) none) (cond (Nat.beq pc 1) (some (.iload_n 1, 2, 0, 0, 0, 0)) none)) (cond (Nat.beq pc 0) (some (.aload_n 0, 1, 0, 0, 0, 0)) none))))
def rc_70 (pc : Nat) : Option RI := cond (Nat.ble 15 pc) none (cond (Nat.ble 6 pc) (cond (Nat.ble 10 pc) (cond (Nat.ble 13 pc) (cond (Nat.ble 14 pc) (cond (Nat.beq pc 14) (some (.ireturn, 15, 0, 0, 0, 0)) none) (cond (Nat.beq pc 13) (some (.iconst 0, 14, 0, 0, 0, 0)) none)) (cond (Nat.beq pc 10) (some (.goto 4, 13, 14, 0, 0, 0)) none)) (cond (Nat.ble 9 pc) (cond (Nat.beq pc 9) (some (.iconst 1, 10, 0, 0, 0, 0)) none) (cond (Nat.beq pc 6) (some (.if_icmp .eq 7, 9, 13, 0, 0, 0)) none))) (cond (Nat.ble 2 pc) (cond (Nat.ble 5 pc) (cond (Nat.beq pc 5) (some (.iconst (-1), 6, 0, 0, 0, 0)) none) (cond (Nat.beq pc 2) (some (.invokevirtual 33, 5, 71, 0, 665, 0)) none)) (cond (Nat.ble 1 pc) (cond (Nat.beq pc 1) (some (.iload_n 1, 2, 0, 0, 0, 0)) none) (cond (Nat.beq pc 0) (some (.aload_n 0, 1, 0, 0, 0, 0)) none))))
def rc_71 (pc : Nat) : Option RI := cond (Nat.ble 13 pc) none (cond (Nat.ble 5 pc) (cond (Nat.ble 9 pc) (cond (Nat.ble 12 pc) (cond (Nat.beq pc 12) (some (.ireturn, 13, 0, 0, 0, 0)) none) (cond (Nat.beq pc 9) (some (.invokevirtual 30, 12, 65, 0, 669, 0)) none)) (cond (Nat.ble 8 pc) (cond (Nat.beq pc 8) (some (.iconst 0, 9, 0, 0, 0, 0)) none) (cond (Nat.beq pc 5) (some (.invokevirtual 26, 8, 63, 0, 660, 0)) none))) (cond (Nat.ble 2 pc) (cond (Nat.ble 3 pc) (cond (Nat.beq pc 3) (some (.bipush 7, 5, 0, 0, 0, 0)) none) (cond (Nat.beq pc 2) (some (.iload_n 1, 3, 0, 0, 0, 0)) none)) (cond (Nat.ble 1 pc) (cond (Nat.beq pc 1) (some (.aload_n 0, 2, 0, 0, 0, 0)) none) (cond (Nat.beq pc 0) (some (.aload_n 0, 1, 0, 0, 0, 0)) none))))
def rc_72 (pc : Nat) : Option RI := cond (Nat.ble 45 pc) none (cond (Nat.ble 19 pc) (cond (Nat.ble 31 pc) (cond (Nat.ble 40 pc) (cond (Nat.ble 43 pc) (cond (Nat.ble 44 pc) (cond (Nat.beq pc 44) (some (.ireturn, 45, 0, 0, 0, 0)) none) (cond (Nat.beq pc 43) (some (.iload_n 1, 44, 0, 0, 0, 0)) none)) (cond (Nat.beq pc 40) (some (.goto (-36), 43, 4, 0, 0, 0)) none)) (cond (Nat.ble 34 pc) (cond (Nat.ble 37 pc) (cond (Nat.beq pc 37) (some (.iinc 2 1, 40, 0, 0, 0, 0)) none) (cond (Nat.beq pc 34) (some (.iinc 1 1, 37, 0, 0, 0, 0)) none)) (cond (Nat.beq pc 31) (some (.if_icmp .le 6, 34, 37, 0, 0, 0)) none))) (cond (Nat.ble 24 pc) (cond (Nat.ble 27 pc) (cond (Nat.ble 28 pc) (cond (Nat.beq pc 28) (some (.invokevirtual 168, 31, 73, 1, 674, 0)) none) (cond (Nat.beq pc 27) (some (.iload_n 2, 28, 0, 0, 0, 0)) none)) (cond (Nat.beq pc 24) (some (.getfield 19, 27, 9, 1, 358, 0)) none)) (cond (Nat.ble 20 pc) (cond (Nat.ble 23 pc) (cond (Nat.beq pc 23) (some (.aload_n 0, 24, 0, 0, 0, 0)) none) (cond (Nat.beq pc 20) (some (.invokevirtual 162, 23, 68, 0, 652, 0)) none)) (cond (Nat.beq pc 19) (some (.iload_n 2, 20, 0, 0, 0, 0)) none)))) (cond (Nat.ble 5 pc) (cond (Nat.ble 12 pc) (cond (Nat.ble 15 pc) (cond (Nat.ble 18 pc) (cond (Nat.beq pc 18) (some (.aload_n 0, 19, 0, 0, 0, 0)) none) (cond (Nat.beq pc 15) (some (.if_icmp .ge 28, 18, 43, 0, 0, 0)) none)) (cond (Nat.beq pc 12) (some (.getfield 165, 15, 3, 3, 167, 0)) none)) (cond (Nat.ble 6 pc) (cond (Nat.ble 9 pc) (cond (Nat.beq pc 9) (some (.getfield 102, 12, 8, 0, 180, 0)) none) (cond (Nat.beq pc 6) (some (.getfield 19, 9, 9, 1, 358, 0)) none)) (cond (Nat.beq pc 5) (some (.aload_n 0, 6, 0, 0, 0, 0)) none))) (cond (Nat.ble 2 pc) (cond (Nat.ble 3 pc) (cond (Nat.ble 4 pc) (cond (Nat.beq pc 4) (some (.iload_n 2, 5, 0, 0, 0, 0)) none) (cond (Nat.beq pc 3) (some (.istore_n 2, 4, 0, 0, 0, 0)) none)) (cond (Nat.beq pc 2) (some (.iconst 0, 3, 0, 0, 0, 0)) none)) (cond (Nat.ble 1 pc) (cond (Nat.beq pc 1) (some (.istore_n 1, 2, 0, 0, 0, 0)) none) (cond (Nat.beq pc 0) (some (.iconst 0, 1, 0, 0, 0, 0)) none)))))
def rc_73 (pc : Nat) : Option RI := cond (Nat.ble 19 pc) none (cond (Nat.ble 9 pc) (cond (Nat.ble 14 pc) (cond (Nat.ble 17 pc) (cond (Nat.ble 18 pc) (cond (Nat.beq pc 18) (some (.ireturn, 19, 0, 0, 0, 0)) none) (cond (Nat.beq pc 17) (some (.iconst 0, 18, 0, 0, 0, 0)) none)) (cond (Nat.beq pc 14) (some (.goto 4, 17, 18, 0, 0, 0)) none)) (cond (Nat.ble 12 pc) (cond (Nat.ble 13 pc) (cond (Nat.beq pc 13) (some (.iaload, 14, 0, 0, 0, 0)) none) (cond (Nat.beq pc 12) (some (.iload_n 1, 13, 0, 0, 0, 0)) none)) (cond (Nat.beq pc 9) (some (.getfield 24, 12, 8, 2, 182, 0)) none))) (cond (Nat.ble 2 pc) (cond (Nat.ble 5 pc) (cond (Nat.ble 8 pc) (cond (Nat.beq pc 8) (some (.aload_n 0, 9, 0, 0, 0, 0)) none) (cond (Nat.beq pc 5) (some (.ifCond .eq 12, 8, 17, 0, 0, 0)) none)) (cond (Nat.beq pc 2) (some (.invokevirtual 35, 5, 29, 0, 460, 0)) none)) (cond (Nat.ble 1 pc) (cond (Nat.beq pc 1) (some (.iload_n 1, 2, 0, 0, 0, 0)) none) (cond (Nat.beq pc 0) (some (.aload_n 0, 1, 0, 0, 0, 0)) none))))
def rc_74 (pc : Nat) : Option RI := cond (Nat.ble 58 pc) none (cond (Nat.ble 28 pc) (cond (Nat.ble 42 pc) (cond (Nat.ble 48 pc) (cond (Nat.ble 54 pc) (cond (Nat.ble 57 pc) (cond (Nat.beq pc 57) (some (.ireturn, 58, 0, 0, 0, 0)) none) (cond (Nat.beq pc 54) (some (.invokevirtual 78, 57, 13, 0, 396, 0)) none)) (cond (Nat.ble 51 pc) (cond (Nat.beq pc 51) (some (.invokevirtual 174, 54, 76, 1, 686, 0)) none) (cond (Nat.beq pc 48) (some (.invokevirtual 168, 51, 73, 1, 674, 0)) none))) (cond (Nat.ble 44 pc) (cond (Nat.ble 47 pc) (cond (Nat.beq pc 47) (some (.iload_n 1, 48, 0, 0, 0, 0)) none) (cond (Nat.beq pc 44) (some (.getfield 19, 47, 9, 1, 358, 0)) none)) (cond (Nat.ble 43 pc) (cond (Nat.beq pc 43) (some (.aload_n 0, 44, 0, 0, 0, 0)) none) (cond (Nat.beq pc 42) (some (.iload_n 1, 43, 0, 0, 0, 0)) none)))) (cond (Nat.ble 34 pc) (cond (Nat.ble 38 pc) (cond (Nat.ble 39 pc) (cond (Nat.beq pc 39) (some (.getfield 33, 42, 9, 3, 360, 0)) none) (cond (Nat.beq pc 38) (some (.aload_n 0, 39, 0, 0, 0, 0)) none)) (cond (Nat.ble 35 pc) (cond (Nat.beq pc 35) (some (.getfield 49, 38, 9, 5, 362, 0)) none) (cond (Nat.beq pc 34) (some (.aload_n 0, 35, 0, 0, 0, 0)) none))) (cond (Nat.ble 32 pc) (cond (Nat.ble 33 pc) (cond (Nat.beq pc 33) (some (.aload_n 0, 34, 0, 0, 0, 0)) none) (cond (Nat.beq pc 32) (some (.ireturn, 33, 0, 0, 0, 0)) none)) (cond (Nat.ble 29 pc) (cond (Nat.beq pc 29) (some (.invokevirtual 74, 32, 12, 0, 392, 0)) none) (cond (Nat.beq pc 28) (some (.iconst 3, 29, 0, 0, 0, 0)) none))))) (cond (Nat.ble 13 pc) (cond (Nat.ble 19 pc) (cond (Nat.ble 24 pc) (cond (Nat.ble 27 pc) (cond (Nat.beq pc 27) (some (.aload_n 0, 28, 0, 0, 0, 0)) none) (cond (Nat.beq pc 24) (some (.if_icmp .le 9, 27, 33, 0, 0, 0)) none)) (cond (Nat.ble 22 pc) (cond (Nat.beq pc 22) (some (.bipush 12, 24, 0, 0, 0, 0)) none) (cond (Nat.beq pc 19) (some (.invokevirtual 171, 22, 75, 0, 682, 0)) none))) (cond (Nat.ble 17 pc) (cond (Nat.ble 18 pc) (cond (Nat.beq pc 18) (some (.iload_n 1, 19, 0, 0, 0, 0)) none) (cond (Nat.beq pc 17) (some (.aload_n 0, 18, 0, 0, 0, 0)) none)) (cond (Nat.ble 16 pc) (cond (Nat.beq pc 16) (some (.ireturn, 17, 0, 0, 0, 0)) none) (cond (Nat.beq pc 13) (some (.invokevirtual 74, 16, 12, 0, 392, 0)) none)))) (cond (Nat.ble 5 pc) (cond (Nat.ble 11 pc) (cond (Nat.ble 12 pc) (cond (Nat.beq pc 12) (some (.iconst 1, 13, 0, 0, 0, 0)) none) (cond (Nat.beq pc 11) (some (.aload_n 0, 12, 0, 0, 0, 0)) none)) (cond (Nat.ble 8 pc) (cond (Nat.beq pc 8) (some (.ifCond .ne 9, 11, 17, 0, 0, 0)) none) (cond (Nat.beq pc 5) (some (.invokevirtual 161, 8, 29, 1, 651, 0)) none))) (cond (Nat.ble 1 pc) (cond (Nat.ble 4 pc) (cond (Nat.beq pc 4) (some (.iload_n 1, 5, 0, 0, 0, 0)) none) (cond (Nat.beq pc 1) (some (.getfield 19, 4, 9, 1, 358, 0)) none)) (cond (Nat.beq pc 0) (some (.aload_n 0, 1, 0, 0, 0, 0)) none)))))
def rc_75 (pc : Nat) : Option RI := cond (Nat.ble 38 pc) none (cond (Nat.ble 16 pc) (cond (Nat.ble 27 pc) (cond (Nat.ble 33 pc) (cond (Nat.ble 36 pc) (cond (Nat.ble 37 pc) (cond (Nat.beq pc 37) (some (.ireturn, 38, 0, 0, 0, 0)) none) (cond (Nat.beq pc 36) (some (.iload_n 2, 37, 0, 0, 0, 0)) none)) (cond (Nat.beq pc 33) (some (.goto (-29), 36, 4, 0, 0, 0)) none)) (cond (Nat.ble 30 pc) (cond (Nat.beq pc 30) (some (.iinc 3 1, 33, 0, 0, 0, 0)) none) (cond (Nat.beq pc 27) (some (.iinc 2 1, 30, 0, 0, 0, 0)) none))) (cond (Nat.ble 20 pc) (cond (Nat.ble 21 pc) (cond (Nat.ble 24 pc) (cond (Nat.beq pc 24) (some (.ifCond .eq 6, 27, 30, 0, 0, 0)) none) (cond (Nat.beq pc 21) (some (.invokevirtual 238, 24, 69, 1, 656, 0)) none)) (cond (Nat.beq pc 20) (some (.iload_n 1, 21, 0, 0, 0, 0)) none)) (cond (Nat.ble 19 pc) (cond (Nat.beq pc 19) (some (.iload_n 3, 20, 0, 0, 0, 0)) none) (cond (Nat.beq pc 16) (some (.getfield 33, 19, 9, 3, 360, 0)) none)))) (cond (Nat.ble 5 pc) (cond (Nat.ble 9 pc) (cond (Nat.ble 12 pc) (cond (Nat.ble 15 pc) (cond (Nat.beq pc 15) (some (.aload_n 0, 16, 0, 0, 0, 0)) none) (cond (Nat.beq pc 12) (some (.if_icmp .ge 24, 15, 36, 0, 0, 0)) none)) (cond (Nat.beq pc 9) (some (.getfield 201, 12, 6, 2, 220, 0)) none)) (cond (Nat.ble 6 pc) (cond (Nat.beq pc 6) (some (.getfield 33, 9, 9, 3, 360, 0)) none) (cond (Nat.beq pc 5) (some (.aload_n 0, 6, 0, 0, 0, 0)) none))) (cond (Nat.ble 2 pc) (cond (Nat.ble 3 pc) (cond (Nat.ble 4 pc) (cond (Nat.beq pc 4) (some (.iload_n 3, 5, 0, 0, 0, 0)) none) (cond (Nat.beq pc 3) (some (.istore_n 3, 4, 0, 0, 0, 0)) none)) (cond (Nat.beq pc 2) (some (.iconst 0, 3, 0, 0, 0, 0)) none)) (cond (Nat.ble 1 pc) (cond (Nat.beq pc 1) (some (.istore_n 2, 2, 0, 0, 0, 0)) none) (cond (Nat.beq pc 0) (some (.iconst 0, 1, 0, 0, 0, 0)) none)))))
def rc_76 (pc : Nat) : Option RI := cond (Nat.ble 40 pc) none (cond (Nat.ble 17 pc) (cond (Nat.ble 28 pc) (cond (Nat.ble 35 pc) (cond (Nat.ble 36 pc) (cond (Nat.ble 39 pc) (cond (Nat.beq pc 39) (some (.ireturn, 40, 0, 0, 0, 0)) none) (cond (Nat.beq pc 36) (some (.getfield 25, 39, 0, 4, 287, 0)) none)) (cond (Nat.beq pc 35) (some (.aload_n 0, 36, 0, 0, 0, 0)) none)) (cond (Nat.ble 31 pc) (cond (Nat.ble 32 pc) (cond (Nat.beq pc 32) (some (.invokevirtual 40, 35, 84, 0, 723, 0)) none) (cond (Nat.beq pc 31) (some (.iconst 0, 32, 0, 0, 0, 0)) none)) (cond (Nat.beq pc 28) (some (.goto 4, 31, 32, 0, 0, 0)) none))) (cond (Nat.ble 20 pc) (cond (Nat.ble 23 pc) (cond (Nat.ble 25 pc) (cond (Nat.beq pc 25) (some (.invokevirtual 36, 28, 81, 0, 708, 0)) none) (cond (Nat.beq pc 23) (some (.iload 4, 25, 0, 0, 0, 0)) none)) (cond (Nat.beq pc 20) (some (.invokevirtual 32, 23, 78, 0, 696, 0)) none)) (cond (Nat.ble 18 pc) (cond (Nat.beq pc 18) (some (.iload 4, 20, 0, 0, 0, 0)) none) (cond (Nat.beq pc 17) (some (.aload_n 0, 18, 0, 0, 0, 0)) none)))) (cond (Nat.ble 7 pc) (cond (Nat.ble 11 pc) (cond (Nat.ble 13 pc) (cond (Nat.ble 16 pc) (cond (Nat.beq pc 16) (some (.aload_n 0, 17, 0, 0, 0, 0)) none) (cond (Nat.beq pc 13) (some (.ifCond .le 18, 16, 31, 0, 0, 0)) none)) (cond (Nat.beq pc 11) (some (.iload 4, 13, 0, 0, 0, 0)) none)) (cond (Nat.ble 8 pc) (cond (Nat.ble 10 pc) (cond (Nat.beq pc 10) (some (.aload_n 0, 11, 0, 0, 0, 0)) none) (cond (Nat.beq pc 8) (some (.istore 4, 10, 0, 0, 0, 0)) none)) (cond (Nat.beq pc 7) (some (.isub, 8, 0, 0, 0, 0)) none))) (cond (Nat.ble 2 pc) (cond (Nat.ble 3 pc) (cond (Nat.ble 6 pc) (cond (Nat.beq pc 6) (some (.iload_n 3, 7, 0, 0, 0, 0)) none) (cond (Nat.beq pc 3) (some (.invokevirtual 28, 6, 77, 0, 690, 0)) none)) (cond (Nat.beq pc 2) (some (.iload_n 2, 3, 0, 0, 0, 0)) none)) (cond (Nat.ble 1 pc) (cond (Nat.beq pc 1) (some (.aload_n 1, 2, 0, 0, 0, 0)) none) (cond (Nat.beq pc 0) (some (.aload_n 0, 1, 0, 0, 0, 0)) none)))))
def rc_77 (pc : Nat) : Option RI := cond (Nat.ble 95 pc) none (cond (Nat.ble 49 pc) (cond (Nat.ble 71 pc) (cond (Nat.ble 82 pc) (cond (Nat.ble 87 pc) (cond (Nat.ble 93 pc) (cond (Nat.ble 94 pc) (cond (Nat.beq pc 94) (some (.ireturn, 95, 0, 0, 0, 0)) none) (cond (Nat.beq pc 93) (some (.iload_n 3, 94, 0, 0, 0, 0)) none)) (cond (Nat.ble 90 pc) (cond (Nat.beq pc 90) (some (.goto (-80), 93, 10, 0, 0, 0)) none) (cond (Nat.beq pc 87) (some (.iinc 4 1, 90, 0, 0, 0, 0)) none))) (cond (Nat.ble 83 pc) (cond (Nat.ble 84 pc) (cond (Nat.beq pc 84) (some (.putfield 21, 87, 0, 3, 286, 0)) none) (cond (Nat.beq pc 83) (some (.iadd, 84, 0, 0, 0, 0)) none)) (cond (Nat.beq pc 82) (some (.iconst 1, 83, 0, 0, 0, 0)) none))) (cond (Nat.ble 76 pc) (cond (Nat.ble 78 pc) (cond (Nat.ble 79 pc) (cond (Nat.beq pc 79) (some (.getfield 21, 82, 0, 3, 286, 0)) none) (cond (Nat.beq pc 78) (some (.dup, 79, 0, 0, 0, 0)) none)) (cond (Nat.ble 77 pc) (cond (Nat.beq pc 77) (some (.aload_n 0, 78, 0, 0, 0, 0)) none) (cond (Nat.beq pc 76) (some (.istore_n 3, 77, 0, 0, 0, 0)) none))) (cond (Nat.ble 74 pc) (cond (Nat.ble 75 pc) (cond (Nat.beq pc 75) (some (.iadd, 76, 0, 0, 0, 0)) none) (cond (Nat.beq pc 74) (some (.iaload, 75, 0, 0, 0, 0)) none)) (cond (Nat.beq pc 71) (some (.getfield 21, 74, 0, 3, 286, 0)) none)))) (cond (Nat.ble 60 pc) (cond (Nat.ble 65 pc) (cond (Nat.ble 67 pc) (cond (Nat.ble 70 pc) (cond (Nat.beq pc 70) (some (.aload_n 0, 71, 0, 0, 0, 0)) none) (cond (Nat.beq pc 67) (some (.getfield 15, 70, 0, 1, 284, 0)) none)) (cond (Nat.ble 66 pc) (cond (Nat.beq pc 66) (some (.aload_n 0, 67, 0, 0, 0, 0)) none) (cond (Nat.beq pc 65) (some (.iload_n 3, 66, 0, 0, 0, 0)) none))) (cond (Nat.ble 61 pc) (cond (Nat.ble 64 pc) (cond (Nat.beq pc 64) (some (.iastore, 65, 0, 0, 0, 0)) none) (cond (Nat.beq pc 61) (some (.invokevirtual 53, 64, 63, 1, 695, 0)) none)) (cond (Nat.beq pc 60) (some (.iconst 0, 61, 0, 0, 0, 0)) none))) (cond (Nat.ble 54 pc) (cond (Nat.ble 57 pc) (cond (Nat.ble 58 pc) (cond (Nat.beq pc 58) (some (.iload 4, 60, 0, 0, 0, 0)) none) (cond (Nat.beq pc 57) (some (.aload_n 1, 58, 0, 0, 0, 0)) none)) (cond (Nat.beq pc 54) (some (.getfield 21, 57, 0, 3, 286, 0)) none)) (cond (Nat.ble 50 pc) (cond (Nat.ble 53 pc) (cond (Nat.beq pc 53) (some (.aload_n 0, 54, 0, 0, 0, 0)) none) (cond (Nat.beq pc 50) (some (.getfield 15, 53, 0, 1, 284, 0)) none)) (cond (Nat.beq pc 49) (some (.aload_n 0, 50, 0, 0, 0, 0)) none))))) (cond (Nat.ble 23 pc) (cond (Nat.ble 35 pc) (cond (Nat.ble 42 pc) (cond (Nat.ble 46 pc) (cond (Nat.ble 48 pc) (cond (Nat.beq pc 48) (some (.iastore, 49, 0, 0, 0, 0)) none) (cond (Nat.beq pc 46) (some (.iload 4, 48, 0, 0, 0, 0)) none)) (cond (Nat.ble 43 pc) (cond (Nat.beq pc 43) (some (.getfield 21, 46, 0, 3, 286, 0)) none) (cond (Nat.beq pc 42) (some (.aload_n 0, 43, 0, 0, 0, 0)) none))) (cond (Nat.ble 38 pc) (cond (Nat.ble 39 pc) (cond (Nat.beq pc 39) (some (.getfield 9, 42, 0, 0, 283, 0)) none) (cond (Nat.beq pc 38) (some (.aload_n 0, 39, 0, 0, 0, 0)) none)) (cond (Nat.beq pc 35) (some (.ifCond .eq 52, 38, 87, 0, 0, 0)) none))) (cond (Nat.ble 29 pc) (cond (Nat.ble 31 pc) (cond (Nat.ble 32 pc) (cond (Nat.beq pc 32) (some (.invokevirtual 49, 35, 69, 1, 694, 0)) none) (cond (Nat.beq pc 31) (some (.iload_n 2, 32, 0, 0, 0, 0)) none)) (cond (Nat.beq pc 29) (some (.iload 4, 31, 0, 0, 0, 0)) none)) (cond (Nat.ble 25 pc) (cond (Nat.ble 28 pc) (cond (Nat.beq pc 28) (some (.aload_n 1, 29, 0, 0, 0, 0)) none) (cond (Nat.beq pc 25) (some (.if_icmp .ge 68, 28, 93, 0, 0, 0)) none)) (cond (Nat.beq pc 23) (some (.bipush 12, 25, 0, 0, 0, 0)) none)))) (cond (Nat.ble 8 pc) (cond (Nat.ble 13 pc) (cond (Nat.ble 19 pc) (cond (Nat.ble 20 pc) (cond (Nat.beq pc 20) (some (.getfield 21, 23, 0, 3, 286, 0)) none) (cond (Nat.beq pc 19) (some (.aload_n 0, 20, 0, 0, 0, 0)) none)) (cond (Nat.ble 16 pc) (cond (Nat.beq pc 16) (some (.if_icmp .ge 77, 19, 93, 0, 0, 0)) none) (cond (Nat.beq pc 13) (some (.getfield 44, 16, 6, 2, 218, 0)) none))) (cond (Nat.ble 10 pc) (cond (Nat.ble 12 pc) (cond (Nat.beq pc 12) (some (.aload_n 1, 13, 0, 0, 0, 0)) none) (cond (Nat.beq pc 10) (some (.iload 4, 12, 0, 0, 0, 0)) none)) (cond (Nat.beq pc 8) (some (.istore 4, 10, 0, 0, 0, 0)) none))) (cond (Nat.ble 3 pc) (cond (Nat.ble 4 pc) (cond (Nat.ble 7 pc) (cond (Nat.beq pc 7) (some (.iconst 0, 8, 0, 0, 0, 0)) none) (cond (Nat.beq pc 4) (some (.putfield 21, 7, 0, 3, 286, 0)) none)) (cond (Nat.beq pc 3) (some (.iconst 0, 4, 0, 0, 0, 0)) none)) (cond (Nat.ble 1 pc) (cond (Nat.ble 2 pc) (cond (Nat.beq pc 2) (some (.aload_n 0, 3, 0, 0, 0, 0)) none) (cond (Nat.beq pc 1) (some (.istore_n 3, 2, 0, 0, 0, 0)) none)) (cond (Nat.beq pc 0) (some (.iconst 0, 1, 0, 0, 0, 0)) none))))))
def rc_78 (pc : Nat) : Option RI := cond (Nat.ble 56 pc) none (cond (Nat.ble 28 pc) (cond (Nat.ble 39 pc) (cond (Nat.ble 46 pc) (cond (Nat.ble 50 pc) (cond (Nat.ble 53 pc) (cond (Nat.ble 55 pc) (cond (Nat.beq pc 55) (some (.ireturn, 56, 0, 0, 0, 0)) none) (cond (Nat.beq pc 53) (some (.iload 4, 55, 0, 0, 0, 0)) none)) (cond (Nat.beq pc 50) (some (.goto (-43), 53, 7, 0, 0, 0)) none)) (cond (Nat.ble 47 pc) (cond (Nat.beq pc 47) (some (.iinc 4 1, 50, 0, 0, 0, 0)) none) (cond (Nat.beq pc 46) (some (.istore_n 3, 47, 0, 0, 0, 0)) none))) (cond (Nat.ble 44 pc) (cond (Nat.ble 45 pc) (cond (Nat.beq pc 45) (some (.iadd, 46, 0, 0, 0, 0)) none) (cond (Nat.beq pc 44) (some (.iaload, 45, 0, 0, 0, 0)) none)) (cond (Nat.ble 42 pc) (cond (Nat.beq pc 42) (some (.iload 5, 44, 0, 0, 0, 0)) none) (cond (Nat.beq pc 39) (some (.getfield 15, 42, 0, 1, 284, 0)) none)))) (cond (Nat.ble 35 pc) (cond (Nat.ble 37 pc) (cond (Nat.ble 38 pc) (cond (Nat.beq pc 38) (some (.aload_n 0, 39, 0, 0, 0, 0)) none) (cond (Nat.beq pc 37) (some (.iload_n 3, 38, 0, 0, 0, 0)) none)) (cond (Nat.ble 36 pc) (cond (Nat.beq pc 36) (some (.istore_n 2, 37, 0, 0, 0, 0)) none) (cond (Nat.beq pc 35) (some (.ior, 36, 0, 0, 0, 0)) none))) (cond (Nat.ble 30 pc) (cond (Nat.ble 32 pc) (cond (Nat.beq pc 32) (some (.invokevirtual 59, 35, 80, 0, 704, 0)) none) (cond (Nat.beq pc 30) (some (.iload 5, 32, 0, 0, 0, 0)) none)) (cond (Nat.ble 29 pc) (cond (Nat.beq pc 29) (some (.aload_n 0, 30, 0, 0, 0, 0)) none) (cond (Nat.beq pc 28) (some (.iload_n 2, 29, 0, 0, 0, 0)) none))))) (cond (Nat.ble 10 pc) (cond (Nat.ble 18 pc) (cond (Nat.ble 22 pc) (cond (Nat.ble 23 pc) (cond (Nat.ble 26 pc) (cond (Nat.beq pc 26) (some (.istore 5, 28, 0, 0, 0, 0)) none) (cond (Nat.beq pc 23) (some (.invokevirtual 56, 26, 79, 0, 700, 0)) none)) (cond (Nat.beq pc 22) (some (.iload_n 2, 23, 0, 0, 0, 0)) none)) (cond (Nat.ble 21 pc) (cond (Nat.beq pc 21) (some (.aload_n 0, 22, 0, 0, 0, 0)) none) (cond (Nat.beq pc 18) (some (.if_icmp .ge 35, 21, 53, 0, 0, 0)) none))) (cond (Nat.ble 16 pc) (cond (Nat.ble 17 pc) (cond (Nat.beq pc 17) (some (.iload_n 1, 18, 0, 0, 0, 0)) none) (cond (Nat.beq pc 16) (some (.iload_n 3, 17, 0, 0, 0, 0)) none)) (cond (Nat.ble 13 pc) (cond (Nat.beq pc 13) (some (.if_icmp .ge 40, 16, 53, 0, 0, 0)) none) (cond (Nat.beq pc 10) (some (.getfield 21, 13, 0, 3, 286, 0)) none)))) (cond (Nat.ble 4 pc) (cond (Nat.ble 7 pc) (cond (Nat.ble 9 pc) (cond (Nat.beq pc 9) (some (.aload_n 0, 10, 0, 0, 0, 0)) none) (cond (Nat.beq pc 7) (some (.iload 4, 9, 0, 0, 0, 0)) none)) (cond (Nat.ble 5 pc) (cond (Nat.beq pc 5) (some (.istore 4, 7, 0, 0, 0, 0)) none) (cond (Nat.beq pc 4) (some (.iconst 0, 5, 0, 0, 0, 0)) none))) (cond (Nat.ble 2 pc) (cond (Nat.ble 3 pc) (cond (Nat.beq pc 3) (some (.istore_n 3, 4, 0, 0, 0, 0)) none) (cond (Nat.beq pc 2) (some (.iconst 0, 3, 0, 0, 0, 0)) none)) (cond (Nat.ble 1 pc) (cond (Nat.beq pc 1) (some (.istore_n 2, 2, 0, 0, 0, 0)) none) (cond (Nat.beq pc 0) (some (.iconst 0, 1, 0, 0, 0, 0)) none))))))
def rc_79 (pc : Nat) : Option RI := cond (Nat.ble 57 pc) none (cond (Nat.ble 27 pc) (cond (Nat.ble 42 pc) (cond (Nat.ble 48 pc) (cond (Nat.ble 52 pc) (cond (Nat.ble 55 pc) (cond (Nat.ble 56 pc) (cond (Nat.beq pc 56) (some (.ireturn, 57, 0, 0, 0, 0)) none) (cond (Nat.beq pc 55) (some (.iload_n 2, 56, 0, 0, 0, 0)) none)) (cond (Nat.beq pc 52) (some (.goto (-45), 55, 7, 0, 0, 0)) none)) (cond (Nat.ble 49 pc) (cond (Nat.beq pc 49) (some (.iinc 4 1, 52, 0, 0, 0, 0)) none) (cond (Nat.beq pc 48) (some (.istore_n 2, 49, 0, 0, 0, 0)) none))) (cond (Nat.ble 45 pc) (cond (Nat.ble 46 pc) (cond (Nat.beq pc 46) (some (.iload 4, 48, 0, 0, 0, 0)) none) (cond (Nat.beq pc 45) (some (.istore_n 3, 46, 0, 0, 0, 0)) none)) (cond (Nat.ble 44 pc) (cond (Nat.beq pc 44) (some (.iaload, 45, 0, 0, 0, 0)) none) (cond (Nat.beq pc 42) (some (.iload 4, 44, 0, 0, 0, 0)) none)))) (cond (Nat.ble 34 pc) (cond (Nat.ble 38 pc) (cond (Nat.ble 39 pc) (cond (Nat.beq pc 39) (some (.getfield 15, 42, 0, 1, 284, 0)) none) (cond (Nat.beq pc 38) (some (.aload_n 0, 39, 0, 0, 0, 0)) none)) (cond (Nat.ble 35 pc) (cond (Nat.beq pc 35) (some (.if_icmp .le 14, 38, 49, 0, 0, 0)) none) (cond (Nat.beq pc 34) (some (.iload_n 3, 35, 0, 0, 0, 0)) none))) (cond (Nat.ble 31 pc) (cond (Nat.ble 33 pc) (cond (Nat.beq pc 33) (some (.iaload, 34, 0, 0, 0, 0)) none) (cond (Nat.beq pc 31) (some (.iload 4, 33, 0, 0, 0, 0)) none)) (cond (Nat.ble 28 pc) (cond (Nat.beq pc 28) (some (.getfield 15, 31, 0, 1, 284, 0)) none) (cond (Nat.beq pc 27) (some (.aload_n 0, 28, 0, 0, 0, 0)) none))))) (cond (Nat.ble 10 pc) (cond (Nat.ble 18 pc) (cond (Nat.ble 23 pc) (cond (Nat.ble 24 pc) (cond (Nat.beq pc 24) (some (.ifCond .ne 25, 27, 49, 0, 0, 0)) none) (cond (Nat.beq pc 23) (some (.iand, 24, 0, 0, 0, 0)) none)) (cond (Nat.ble 20 pc) (cond (Nat.beq pc 20) (some (.invokevirtual 59, 23, 80, 0, 704, 0)) none) (cond (Nat.beq pc 18) (some (.iload 4, 20, 0, 0, 0, 0)) none))) (cond (Nat.ble 16 pc) (cond (Nat.ble 17 pc) (cond (Nat.beq pc 17) (some (.aload_n 0, 18, 0, 0, 0, 0)) none) (cond (Nat.beq pc 16) (some (.iload_n 1, 17, 0, 0, 0, 0)) none)) (cond (Nat.ble 13 pc) (cond (Nat.beq pc 13) (some (.if_icmp .ge 42, 16, 55, 0, 0, 0)) none) (cond (Nat.beq pc 10) (some (.getfield 21, 13, 0, 3, 286, 0)) none)))) (cond (Nat.ble 4 pc) (cond (Nat.ble 7 pc) (cond (Nat.ble 9 pc) (cond (Nat.beq pc 9) (some (.aload_n 0, 10, 0, 0, 0, 0)) none) (cond (Nat.beq pc 7) (some (.iload 4, 9, 0, 0, 0, 0)) none)) (cond (Nat.ble 5 pc) (cond (Nat.beq pc 5) (some (.istore 4, 7, 0, 0, 0, 0)) none) (cond (Nat.beq pc 4) (some (.iconst 0, 5, 0, 0, 0, 0)) none))) (cond (Nat.ble 2 pc) (cond (Nat.ble 3 pc) (cond (Nat.beq pc 3) (some (.istore_n 3, 4, 0, 0, 0, 0)) none) (cond (Nat.beq pc 2) (some (.iconst (-1), 3, 0, 0, 0, 0)) none)) (cond (Nat.ble 1 pc) (cond (Nat.beq pc 1) (some (.istore_n 2, 2, 0, 0, 0, 0)) none) (cond (Nat.beq pc 0) (some (.iconst 0, 1, 0, 0, 0, 0)) none))))))
def rc_80 (pc : Nat) : Option RI := cond (Nat.ble 11 pc) none (cond (Nat.ble 6 pc) (cond (Nat.ble 8 pc) (cond (Nat.ble 9 pc) (cond (Nat.ble 10 pc) (cond (Nat.beq pc 10) (some (.ireturn, 11, 0, 0, 0, 0)) none) (cond (Nat.beq pc 9) (some (.ishl, 10, 0, 0, 0, 0)) none)) (cond (Nat.beq pc 8) (some (.isub, 9, 0, 0, 0, 0)) none)) (cond (Nat.ble 7 pc) (cond (Nat.beq pc 7) (some (.iload_n 1, 8, 0, 0, 0, 0)) none) (cond (Nat.beq pc 6) (some (.isub, 7, 0, 0, 0, 0)) none))) (cond (Nat.ble 2 pc) (cond (Nat.ble 5 pc) (cond (Nat.beq pc 5) (some (.iconst 1, 6, 0, 0, 0, 0)) none) (cond (Nat.beq pc 2) (some (.getfield 21, 5, 0, 3, 286, 0)) none)) (cond (Nat.ble 1 pc) (cond (Nat.beq pc 1) (some (.aload_n 0, 2, 0, 0, 0, 0)) none) (cond (Nat.beq pc 0) (some (.iconst 1, 1, 0, 0, 0, 0)) none))))
def rc_81 (pc : Nat) : Option RI := cond (Nat.ble 66 pc) none (cond (Nat.ble 30 pc) (cond (Nat.ble 48 pc) (cond (Nat.ble 57 pc) (cond (Nat.ble 61 pc) (cond (Nat.ble 64 pc) (cond (Nat.ble 65 pc) (cond (Nat.beq pc 65) (some (.ireturn, 66, 0, 0, 0, 0)) none) (cond (Nat.beq pc 64) (some (.iload_n 3, 65, 0, 0, 0, 0)) none)) (cond (Nat.beq pc 61) (some (.goto (-45), 64, 16, 0, 0, 0)) none)) (cond (Nat.ble 58 pc) (cond (Nat.beq pc 58) (some (.iinc 5 (-1), 61, 0, 0, 0, 0)) none) (cond (Nat.beq pc 57) (some (.istore_n 3, 58, 0, 0, 0, 0)) none))) (cond (Nat.ble 53 pc) (cond (Nat.ble 55 pc) (cond (Nat.beq pc 55) (some (.iload 5, 57, 0, 0, 0, 0)) none) (cond (Nat.beq pc 53) (some (.istore 4, 55, 0, 0, 0, 0)) none)) (cond (Nat.ble 51 pc) (cond (Nat.beq pc 51) (some (.iload 6, 53, 0, 0, 0, 0)) none) (cond (Nat.beq pc 48) (some (.if_icmp .ge 10, 51, 58, 0, 0, 0)) none)))) (cond (Nat.ble 38 pc) (cond (Nat.ble 41 pc) (cond (Nat.ble 44 pc) (cond (Nat.ble 46 pc) (cond (Nat.beq pc 46) (some (.iload 4, 48, 0, 0, 0, 0)) none) (cond (Nat.beq pc 44) (some (.iload 6, 46, 0, 0, 0, 0)) none)) (cond (Nat.beq pc 41) (some (.if_icmp .lt 17, 44, 58, 0, 0, 0)) none)) (cond (Nat.ble 40 pc) (cond (Nat.beq pc 40) (some (.iload_n 2, 41, 0, 0, 0, 0)) none) (cond (Nat.beq pc 38) (some (.iload 6, 40, 0, 0, 0, 0)) none))) (cond (Nat.ble 33 pc) (cond (Nat.ble 36 pc) (cond (Nat.beq pc 36) (some (.istore 6, 38, 0, 0, 0, 0)) none) (cond (Nat.beq pc 33) (some (.invokevirtual 68, 36, 83, 0, 719, 0)) none)) (cond (Nat.ble 31 pc) (cond (Nat.beq pc 31) (some (.iload 5, 33, 0, 0, 0, 0)) none) (cond (Nat.beq pc 30) (some (.aload_n 0, 31, 0, 0, 0, 0)) none))))) (cond (Nat.ble 12 pc) (cond (Nat.ble 18 pc) (cond (Nat.ble 23 pc) (cond (Nat.ble 26 pc) (cond (Nat.ble 27 pc) (cond (Nat.beq pc 27) (some (.if_icmp .ne 31, 30, 58, 0, 0, 0)) none) (cond (Nat.beq pc 26) (some (.iload_n 1, 27, 0, 0, 0, 0)) none)) (cond (Nat.beq pc 23) (some (.invokestatic 65, 26, 82, 0, 713, 0)) none)) (cond (Nat.ble 21 pc) (cond (Nat.beq pc 21) (some (.iload 5, 23, 0, 0, 0, 0)) none) (cond (Nat.beq pc 18) (some (.ifCond .le 46, 21, 64, 0, 0, 0)) none))) (cond (Nat.ble 14 pc) (cond (Nat.ble 16 pc) (cond (Nat.beq pc 16) (some (.iload 5, 18, 0, 0, 0, 0)) none) (cond (Nat.beq pc 14) (some (.istore 5, 16, 0, 0, 0, 0)) none)) (cond (Nat.ble 13 pc) (cond (Nat.beq pc 13) (some (.isub, 14, 0, 0, 0, 0)) none) (cond (Nat.beq pc 12) (some (.iconst 1, 13, 0, 0, 0, 0)) none)))) (cond (Nat.ble 6 pc) (cond (Nat.ble 8 pc) (cond (Nat.ble 11 pc) (cond (Nat.beq pc 11) (some (.ishl, 12, 0, 0, 0, 0)) none) (cond (Nat.beq pc 8) (some (.getfield 21, 11, 0, 3, 286, 0)) none)) (cond (Nat.ble 7 pc) (cond (Nat.beq pc 7) (some (.aload_n 0, 8, 0, 0, 0, 0)) none) (cond (Nat.beq pc 6) (some (.iconst 1, 7, 0, 0, 0, 0)) none))) (cond (Nat.ble 2 pc) (cond (Nat.ble 4 pc) (cond (Nat.beq pc 4) (some (.istore 4, 6, 0, 0, 0, 0)) none) (cond (Nat.beq pc 2) (some (.ldc 64, 4, 0, 0, 712, 2147483647)) none)) (cond (Nat.ble 1 pc) (cond (Nat.beq pc 1) (some (.istore_n 3, 2, 0, 0, 0, 0)) none) (cond (Nat.beq pc 0) (some (.iconst 0, 1, 0, 0, 0, 0)) none))))))
def rc_82 (pc : Nat) : Option RI := cond (Nat.ble 53 pc) none (cond (Nat.ble 27 pc) (cond (Nat.ble 40 pc) (cond (Nat.ble 46 pc) (cond (Nat.ble 49 pc) (cond (Nat.ble 51 pc) (cond (Nat.ble 52 pc) (cond (Nat.beq pc 52) (some (.ireturn, 53, 0, 0, 0, 0)) none) (cond (Nat.beq pc 51) (some (.iand, 52, 0, 0, 0, 0)) none)) (cond (Nat.beq pc 49) (some (.bipush 63, 51, 0, 0, 0, 0)) none)) (cond (Nat.ble 47 pc) (cond (Nat.ble 48 pc) (cond (Nat.beq pc 48) (some (.iload_n 0, 49, 0, 0, 0, 0)) none) (cond (Nat.beq pc 47) (some (.istore_n 0, 48, 0, 0, 0, 0)) none)) (cond (Nat.beq pc 46) (some (.iadd, 47, 0, 0, 0, 0)) none))) (cond (Nat.ble 42 pc) (cond (Nat.ble 43 pc) (cond (Nat.ble 45 pc) (cond (Nat.beq pc 45) (some (.iushr, 46, 0, 0, 0, 0)) none) (cond (Nat.beq pc 43) (some (.bipush 16, 45, 0, 0, 0, 0)) none)) (cond (Nat.beq pc 42) (some (.iload_n 0, 43, 0, 0, 0, 0)) none)) (cond (Nat.ble 41 pc) (cond (Nat.beq pc 41) (some (.iload_n 0, 42, 0, 0, 0, 0)) none) (cond (Nat.beq pc 40) (some (.istore_n 0, 41, 0, 0, 0, 0)) none)))) (cond (Nat.ble 34 pc) (cond (Nat.ble 36 pc) (cond (Nat.ble 38 pc) (cond (Nat.ble 39 pc) (cond (Nat.beq pc 39) (some (.iadd, 40, 0, 0, 0, 0)) none) (cond (Nat.beq pc 38) (some (.iushr, 39, 0, 0, 0, 0)) none)) (cond (Nat.beq pc 36) (some (.bipush 8, 38, 0, 0, 0, 0)) none)) (cond (Nat.ble 35 pc) (cond (Nat.beq pc 35) (some (.iload_n 0, 36, 0, 0, 0, 0)) none) (cond (Nat.beq pc 34) (some (.iload_n 0, 35, 0, 0, 0, 0)) none))) (cond (Nat.ble 29 pc) (cond (Nat.ble 32 pc) (cond (Nat.ble 33 pc) (cond (Nat.beq pc 33) (some (.istore_n 0, 34, 0, 0, 0, 0)) none) (cond (Nat.beq pc 32) (some (.iand, 33, 0, 0, 0, 0)) none)) (cond (Nat.beq pc 29) (some (.ldc_w 267, 32, 0, 0, 718, 252645135)) none)) (cond (Nat.ble 28 pc) (cond (Nat.beq pc 28) (some (.iadd, 29, 0, 0, 0, 0)) none) (cond (Nat.beq pc 27) (some (.iushr, 28, 0, 0, 0, 0)) none))))) (cond (Nat.ble 14 pc) (cond (Nat.ble 21 pc) (cond (Nat.ble 24 pc) (cond (Nat.ble 25 pc) (cond (Nat.ble 26 pc) (cond (Nat.beq pc 26) (some (.iconst 4, 27, 0, 0, 0, 0)) none) (cond (Nat.beq pc 25) (some (.iload_n 0, 26, 0, 0, 0, 0)) none)) (cond (Nat.beq pc 24) (some (.iload_n 0, 25, 0, 0, 0, 0)) none)) (cond (Nat.ble 22 pc) (cond (Nat.ble 23 pc) (cond (Nat.beq pc 23) (some (.istore_n 0, 24, 0, 0, 0, 0)) none) (cond (Nat.beq pc 22) (some (.iadd, 23, 0, 0, 0, 0)) none)) (cond (Nat.beq pc 21) (some (.iand, 22, 0, 0, 0, 0)) none))) (cond (Nat.ble 16 pc) (cond (Nat.ble 17 pc) (cond (Nat.ble 18 pc) (cond (Nat.beq pc 18) (some (.ldc_w 266, 21, 0, 0, 717, 858993459)) none) (cond (Nat.beq pc 17) (some (.iushr, 18, 0, 0, 0, 0)) none)) (cond (Nat.beq pc 16) (some (.iconst 2, 17, 0, 0, 0, 0)) none)) (cond (Nat.ble 15 pc) (cond (Nat.beq pc 15) (some (.iload_n 0, 16, 0, 0, 0, 0)) none) (cond (Nat.beq pc 14) (some (.iand, 15, 0, 0, 0, 0)) none)))) (cond (Nat.ble 7 pc) (cond (Nat.ble 9 pc) (cond (Nat.ble 10 pc) (cond (Nat.ble 11 pc) (cond (Nat.beq pc 11) (some (.ldc_w 266, 14, 0, 0, 717, 858993459)) none) (cond (Nat.beq pc 10) (some (.iload_n 0, 11, 0, 0, 0, 0)) none)) (cond (Nat.beq pc 9) (some (.istore_n 0, 10, 0, 0, 0, 0)) none)) (cond (Nat.ble 8 pc) (cond (Nat.beq pc 8) (some (.isub, 9, 0, 0, 0, 0)) none) (cond (Nat.beq pc 7) (some (.iand, 8, 0, 0, 0, 0)) none))) (cond (Nat.ble 2 pc) (cond (Nat.ble 3 pc) (cond (Nat.ble 4 pc) (cond (Nat.beq pc 4) (some (.ldc_w 265, 7, 0, 0, 716, 1431655765)) none) (cond (Nat.beq pc 3) (some (.iushr, 4, 0, 0, 0, 0)) none)) (cond (Nat.beq pc 2) (some (.iconst 1, 3, 0, 0, 0, 0)) none)) (cond (Nat.ble 1 pc) (cond (Nat.beq pc 1) (some (.iload_n 0, 2, 0, 0, 0, 0)) none) (cond (Nat.beq pc 0) (some (.iload_n 0, 1, 0, 0, 0, 0)) none))))))
def rc_83 (pc : Nat) : Option RI := cond (Nat.ble 39 pc) none (cond (Nat.ble 18 pc) (cond (Nat.ble 28 pc) (cond (Nat.ble 31 pc) (cond (Nat.ble 37 pc) (cond (Nat.ble 38 pc) (cond (Nat.beq pc 38) (some (.ireturn, 39, 0, 0, 0, 0)) none) (cond (Nat.beq pc 37) (some (.iload_n 2, 38, 0, 0, 0, 0)) none)) (cond (Nat.ble 34 pc) (cond (Nat.beq pc 34) (some (.goto (-30), 37, 4, 0, 0, 0)) none) (cond (Nat.beq pc 31) (some (.iinc 3 1, 34, 0, 0, 0, 0)) none))) (cond (Nat.ble 29 pc) (cond (Nat.ble 30 pc) (cond (Nat.beq pc 30) (some (.istore_n 2, 31, 0, 0, 0, 0)) none) (cond (Nat.beq pc 29) (some (.iadd, 30, 0, 0, 0, 0)) none)) (cond (Nat.beq pc 28) (some (.iaload, 29, 0, 0, 0, 0)) none))) (cond (Nat.ble 23 pc) (cond (Nat.ble 24 pc) (cond (Nat.ble 27 pc) (cond (Nat.beq pc 27) (some (.iload_n 3, 28, 0, 0, 0, 0)) none) (cond (Nat.beq pc 24) (some (.getfield 15, 27, 0, 1, 284, 0)) none)) (cond (Nat.beq pc 23) (some (.aload_n 0, 24, 0, 0, 0, 0)) none)) (cond (Nat.ble 19 pc) (cond (Nat.ble 22 pc) (cond (Nat.beq pc 22) (some (.iload_n 2, 23, 0, 0, 0, 0)) none) (cond (Nat.beq pc 19) (some (.ifCond .eq 12, 22, 31, 0, 0, 0)) none)) (cond (Nat.beq pc 18) (some (.iand, 19, 0, 0, 0, 0)) none)))) (cond (Nat.ble 6 pc) (cond (Nat.ble 13 pc) (cond (Nat.ble 14 pc) (cond (Nat.ble 15 pc) (cond (Nat.beq pc 15) (some (.invokevirtual 59, 18, 80, 0, 704, 0)) none) (cond (Nat.beq pc 14) (some (.iload_n 3, 15, 0, 0, 0, 0)) none)) (cond (Nat.beq pc 13) (some (.aload_n 0, 14, 0, 0, 0, 0)) none)) (cond (Nat.ble 9 pc) (cond (Nat.ble 12 pc) (cond (Nat.beq pc 12) (some (.iload_n 1, 13, 0, 0, 0, 0)) none) (cond (Nat.beq pc 9) (some (.if_icmp .ge 28, 12, 37, 0, 0, 0)) none)) (cond (Nat.beq pc 6) (some (.getfield 21, 9, 0, 3, 286, 0)) none))) (cond (Nat.ble 3 pc) (cond (Nat.ble 4 pc) (cond (Nat.ble 5 pc) (cond (Nat.beq pc 5) (some (.aload_n 0, 6, 0, 0, 0, 0)) none) (cond (Nat.beq pc 4) (some (.iload_n 3, 5, 0, 0, 0, 0)) none)) (cond (Nat.beq pc 3) (some (.istore_n 3, 4, 0, 0, 0, 0)) none)) (cond (Nat.ble 1 pc) (cond (Nat.ble 2 pc) (cond (Nat.beq pc 2) (some (.iconst 0, 3, 0, 0, 0, 0)) none) (cond (Nat.beq pc 1) (some (.istore_n 2, 2, 0, 0, 0, 0)) none)) (cond (Nat.beq pc 0) (some (.iconst 0, 1, 0, 0, 0, 0)) none)))))
def rc_84 (pc : Nat) : Option RI := cond (Nat.ble 57 pc) none (cond (Nat.ble 26 pc) (cond (Nat.ble 40 pc) (cond (Nat.ble 46 pc) (cond (Nat.ble 50 pc) (cond (Nat.ble 53 pc) (cond (Nat.ble 56 pc) (cond (Nat.beq pc 56) (some (.return_, 57, 0, 0, 0, 0)) none) (cond (Nat.beq pc 53) (some (.goto (-46), 56, 7, 0, 0, 0)) none)) (cond (Nat.beq pc 50) (some (.iinc 2 1, 53, 0, 0, 0, 0)) none)) (cond (Nat.ble 47 pc) (cond (Nat.beq pc 47) (some (.putfield 25, 50, 0, 4, 287, 0)) none) (cond (Nat.beq pc 46) (some (.iadd, 47, 0, 0, 0, 0)) none))) (cond (Nat.ble 42 pc) (cond (Nat.ble 45 pc) (cond (Nat.beq pc 45) (some (.iconst 1, 46, 0, 0, 0, 0)) none) (cond (Nat.beq pc 42) (some (.getfield 25, 45, 0, 4, 287, 0)) none)) (cond (Nat.ble 41 pc) (cond (Nat.beq pc 41) (some (.dup, 42, 0, 0, 0, 0)) none) (cond (Nat.beq pc 40) (some (.aload_n 0, 41, 0, 0, 0, 0)) none)))) (cond (Nat.ble 34 pc) (cond (Nat.ble 38 pc) (cond (Nat.ble 39 pc) (cond (Nat.beq pc 39) (some (.iastore, 40, 0, 0, 0, 0)) none) (cond (Nat.beq pc 38) (some (.iaload, 39, 0, 0, 0, 0)) none)) (cond (Nat.ble 37 pc) (cond (Nat.beq pc 37) (some (.iload_n 2, 38, 0, 0, 0, 0)) none) (cond (Nat.beq pc 34) (some (.getfield 9, 37, 0, 0, 283, 0)) none))) (cond (Nat.ble 30 pc) (cond (Nat.ble 33 pc) (cond (Nat.beq pc 33) (some (.aload_n 0, 34, 0, 0, 0, 0)) none) (cond (Nat.beq pc 30) (some (.getfield 25, 33, 0, 4, 287, 0)) none)) (cond (Nat.ble 29 pc) (cond (Nat.beq pc 29) (some (.aload_n 0, 30, 0, 0, 0, 0)) none) (cond (Nat.beq pc 26) (some (.getfield 18, 29, 0, 2, 285, 0)) none))))) (cond (Nat.ble 12 pc) (cond (Nat.ble 18 pc) (cond (Nat.ble 22 pc) (cond (Nat.ble 25 pc) (cond (Nat.beq pc 25) (some (.aload_n 0, 26, 0, 0, 0, 0)) none) (cond (Nat.beq pc 22) (some (.ifCond .eq 28, 25, 50, 0, 0, 0)) none)) (cond (Nat.ble 21 pc) (cond (Nat.beq pc 21) (some (.iand, 22, 0, 0, 0, 0)) none) (cond (Nat.beq pc 18) (some (.invokevirtual 59, 21, 80, 0, 704, 0)) none))) (cond (Nat.ble 16 pc) (cond (Nat.ble 17 pc) (cond (Nat.beq pc 17) (some (.iload_n 2, 18, 0, 0, 0, 0)) none) (cond (Nat.beq pc 16) (some (.aload_n 0, 17, 0, 0, 0, 0)) none)) (cond (Nat.ble 15 pc) (cond (Nat.beq pc 15) (some (.iload_n 1, 16, 0, 0, 0, 0)) none) (cond (Nat.beq pc 12) (some (.if_icmp .ge 44, 15, 56, 0, 0, 0)) none)))) (cond (Nat.ble 6 pc) (cond (Nat.ble 8 pc) (cond (Nat.ble 9 pc) (cond (Nat.beq pc 9) (some (.getfield 21, 12, 0, 3, 286, 0)) none) (cond (Nat.beq pc 8) (some (.aload_n 0, 9, 0, 0, 0, 0)) none)) (cond (Nat.ble 7 pc) (cond (Nat.beq pc 7) (some (.iload_n 2, 8, 0, 0, 0, 0)) none) (cond (Nat.beq pc 6) (some (.istore_n 2, 7, 0, 0, 0, 0)) none))) (cond (Nat.ble 2 pc) (cond (Nat.ble 5 pc) (cond (Nat.beq pc 5) (some (.iconst 0, 6, 0, 0, 0, 0)) none) (cond (Nat.beq pc 2) (some (.putfield 25, 5, 0, 4, 287, 0)) none)) (cond (Nat.ble 1 pc) (cond (Nat.beq pc 1) (some (.iconst 0, 2, 0, 0, 0, 0)) none) (cond (Nat.beq pc 0) (some (.aload_n 0, 1, 0, 0, 0, 0)) none))))))
def rc_85 (pc : Nat) : Option RI := cond (Nat.ble 9 pc) none (cond (Nat.ble 4 pc) (cond (Nat.ble 5 pc) (cond (Nat.ble 8 pc) (cond (Nat.beq pc 8) (some (.ireturn, 9, 0, 0, 0, 0)) none) (cond (Nat.beq pc 5) (some (.invokevirtual 178, 8, 86, 1, 731, 0)) none)) (cond (Nat.beq pc 4) (some (.iload_n 1, 5, 0, 0, 0, 0)) none)) (cond (Nat.ble 1 pc) (cond (Nat.beq pc 1) (some (.getfield 49, 4, 9, 5, 362, 0)) none) (cond (Nat.beq pc 0) (some (.aload_n 0, 1, 0, 0, 0, 0)) none)))
def rc_86 (pc : Nat) : Option RI := cond (Nat.ble 23 pc) none (cond (Nat.ble 12 pc) (cond (Nat.ble 17 pc) (cond (Nat.ble 21 pc) (cond (Nat.ble 22 pc) (cond (Nat.beq pc 22) (some (.ireturn, 23, 0, 0, 0, 0)) none) (cond (Nat.beq pc 21) (some (.iconst (-1), 22, 0, 0, 0, 0)) none)) (cond (Nat.ble 18 pc) (cond (Nat.beq pc 18) (some (.goto 4, 21, 22, 0, 0, 0)) none) (cond (Nat.beq pc 17) (some (.iaload, 18, 0, 0, 0, 0)) none))) (cond (Nat.ble 13 pc) (cond (Nat.ble 16 pc) (cond (Nat.beq pc 16) (some (.iload_n 1, 17, 0, 0, 0, 0)) none) (cond (Nat.beq pc 13) (some (.getfield 18, 16, 0, 2, 285, 0)) none)) (cond (Nat.beq pc 12) (some (.aload_n 0, 13, 0, 0, 0, 0)) none))) (cond (Nat.ble 5 pc) (cond (Nat.ble 6 pc) (cond (Nat.ble 9 pc) (cond (Nat.beq pc 9) (some (.if_icmp .ge 12, 12, 21, 0, 0, 0)) none) (cond (Nat.beq pc 6) (some (.getfield 25, 9, 0, 4, 287, 0)) none)) (cond (Nat.beq pc 5) (some (.aload_n 0, 6, 0, 0, 0, 0)) none)) (cond (Nat.ble 1 pc) (cond (Nat.ble 4 pc) (cond (Nat.beq pc 4) (some (.iload_n 1, 5, 0, 0, 0, 0)) none) (cond (Nat.beq pc 1) (some (.ifCond .lt 20, 4, 21, 0, 0, 0)) none)) (cond (Nat.beq pc 0) (some (.iload_n 1, 1, 0, 0, 0, 0)) none))))
def rc_87 (pc : Nat) : Option RI := cond (Nat.ble 37 pc) none (cond (Nat.ble 15 pc) (cond (Nat.ble 26 pc) (cond (Nat.ble 32 pc) (cond (Nat.ble 35 pc) (cond (Nat.ble 36 pc) (cond (Nat.beq pc 36) (some (.ireturn, 37, 0, 0, 0, 0)) none) (cond (Nat.beq pc 35) (some (.iload_n 1, 36, 0, 0, 0, 0)) none)) (cond (Nat.beq pc 32) (some (.goto (-28), 35, 4, 0, 0, 0)) none)) (cond (Nat.ble 29 pc) (cond (Nat.beq pc 29) (some (.iinc 2 1, 32, 0, 0, 0, 0)) none) (cond (Nat.beq pc 26) (some (.iinc 1 1, 29, 0, 0, 0, 0)) none))) (cond (Nat.ble 19 pc) (cond (Nat.ble 20 pc) (cond (Nat.ble 23 pc) (cond (Nat.beq pc 23) (some (.ifCond .ne 6, 26, 29, 0, 0, 0)) none) (cond (Nat.beq pc 20) (some (.invokevirtual 171, 23, 75, 0, 682, 0)) none)) (cond (Nat.beq pc 19) (some (.iload_n 2, 20, 0, 0, 0, 0)) none)) (cond (Nat.ble 18 pc) (cond (Nat.beq pc 18) (some (.aload_n 0, 19, 0, 0, 0, 0)) none) (cond (Nat.beq pc 15) (some (.if_icmp .ge 20, 18, 35, 0, 0, 0)) none)))) (cond (Nat.ble 4 pc) (cond (Nat.ble 6 pc) (cond (Nat.ble 9 pc) (cond (Nat.ble 12 pc) (cond (Nat.beq pc 12) (some (.getfield 165, 15, 3, 3, 167, 0)) none) (cond (Nat.beq pc 9) (some (.getfield 102, 12, 8, 0, 180, 0)) none)) (cond (Nat.beq pc 6) (some (.getfield 19, 9, 9, 1, 358, 0)) none)) (cond (Nat.ble 5 pc) (cond (Nat.beq pc 5) (some (.aload_n 0, 6, 0, 0, 0, 0)) none) (cond (Nat.beq pc 4) (some (.iload_n 2, 5, 0, 0, 0, 0)) none))) (cond (Nat.ble 2 pc) (cond (Nat.ble 3 pc) (cond (Nat.beq pc 3) (some (.istore_n 2, 4, 0, 0, 0, 0)) none) (cond (Nat.beq pc 2) (some (.iconst 0, 3, 0, 0, 0, 0)) none)) (cond (Nat.ble 1 pc) (cond (Nat.beq pc 1) (some (.istore_n 1, 2, 0, 0, 0, 0)) none) (cond (Nat.beq pc 0) (some (.iconst 0, 1, 0, 0, 0, 0)) none)))))
def rc_88 (pc : Nat) : Option RI := cond (Nat.ble 44 pc) none (cond (Nat.ble 20 pc) (cond (Nat.ble 32 pc) (cond (Nat.ble 39 pc) (cond (Nat.ble 42 pc) (cond (Nat.ble 43 pc) (cond (Nat.beq pc 43) (some (.ireturn, 44, 0, 0, 0, 0)) none) (cond (Nat.beq pc 42) (some (.iconst (-1), 43, 0, 0, 0, 0)) none)) (cond (Nat.beq pc 39) (some (.goto (-35), 42, 4, 0, 0, 0)) none)) (cond (Nat.ble 33 pc) (cond (Nat.ble 36 pc) (cond (Nat.beq pc 36) (some (.iinc 3 1, 39, 0, 0, 0, 0)) none) (cond (Nat.beq pc 33) (some (.iinc 2 1, 36, 0, 0, 0, 0)) none)) (cond (Nat.beq pc 32) (some (.ireturn, 33, 0, 0, 0, 0)) none))) (cond (Nat.ble 27 pc) (cond (Nat.ble 28 pc) (cond (Nat.ble 31 pc) (cond (Nat.beq pc 31) (some (.iload_n 3, 32, 0, 0, 0, 0)) none) (cond (Nat.beq pc 28) (some (.if_icmp .ne 5, 31, 33, 0, 0, 0)) none)) (cond (Nat.beq pc 27) (some (.iload_n 1, 28, 0, 0, 0, 0)) none)) (cond (Nat.ble 23 pc) (cond (Nat.ble 26 pc) (cond (Nat.beq pc 26) (some (.iload_n 2, 27, 0, 0, 0, 0)) none) (cond (Nat.beq pc 23) (some (.ifCond .ne 13, 26, 36, 0, 0, 0)) none)) (cond (Nat.beq pc 20) (some (.invokevirtual 171, 23, 75, 0, 682, 0)) none)))) (cond (Nat.ble 6 pc) (cond (Nat.ble 15 pc) (cond (Nat.ble 18 pc) (cond (Nat.ble 19 pc) (cond (Nat.beq pc 19) (some (.iload_n 3, 20, 0, 0, 0, 0)) none) (cond (Nat.beq pc 18) (some (.aload_n 0, 19, 0, 0, 0, 0)) none)) (cond (Nat.beq pc 15) (some (.if_icmp .ge 27, 18, 42, 0, 0, 0)) none)) (cond (Nat.ble 9 pc) (cond (Nat.ble 12 pc) (cond (Nat.beq pc 12) (some (.getfield 165, 15, 3, 3, 167, 0)) none) (cond (Nat.beq pc 9) (some (.getfield 102, 12, 8, 0, 180, 0)) none)) (cond (Nat.beq pc 6) (some (.getfield 19, 9, 9, 1, 358, 0)) none))) (cond (Nat.ble 3 pc) (cond (Nat.ble 4 pc) (cond (Nat.ble 5 pc) (cond (Nat.beq pc 5) (some (.aload_n 0, 6, 0, 0, 0, 0)) none) (cond (Nat.beq pc 4) (some (.iload_n 3, 5, 0, 0, 0, 0)) none)) (cond (Nat.beq pc 3) (some (.istore_n 3, 4, 0, 0, 0, 0)) none)) (cond (Nat.ble 1 pc) (cond (Nat.ble 2 pc) (cond (Nat.beq pc 2) (some (.iconst 0, 3, 0, 0, 0, 0)) none) (cond (Nat.beq pc 1) (some (.istore_n 2, 2, 0, 0, 0, 0)) none)) (cond (Nat.beq pc 0) (some (.iconst 0, 1, 0, 0, 0, 0)) none)))))
def rc_89 (pc : Nat) : Option RI := cond (Nat.ble 46 pc) none (cond (Nat.ble 24 pc) (cond (Nat.ble 34 pc) (cond (Nat.ble 39 pc) (cond (Nat.ble 42 pc) (cond (Nat.ble 45 pc) (cond (Nat.beq pc 45) (some (.ireturn, 46, 0, 0, 0, 0)) none) (cond (Nat.beq pc 42) (some (.invokevirtual 78, 45, 13, 0, 396, 0)) none)) (cond (Nat.beq pc 39) (some (.invokevirtual 181, 42, 90, 1, 747, 0)) none)) (cond (Nat.ble 37 pc) (cond (Nat.ble 38 pc) (cond (Nat.beq pc 38) (some (.iload_n 2, 39, 0, 0, 0, 0)) none) (cond (Nat.beq pc 37) (some (.iload_n 1, 38, 0, 0, 0, 0)) none)) (cond (Nat.beq pc 34) (some (.getfield 33, 37, 9, 3, 360, 0)) none))) (cond (Nat.ble 29 pc) (cond (Nat.ble 30 pc) (cond (Nat.ble 33 pc) (cond (Nat.beq pc 33) (some (.aload_n 0, 34, 0, 0, 0, 0)) none) (cond (Nat.beq pc 30) (some (.getfield 56, 33, 9, 6, 363, 0)) none)) (cond (Nat.beq pc 29) (some (.aload_n 0, 30, 0, 0, 0, 0)) none)) (cond (Nat.ble 27 pc) (cond (Nat.ble 28 pc) (cond (Nat.beq pc 28) (some (.aload_n 0, 29, 0, 0, 0, 0)) none) (cond (Nat.beq pc 27) (some (.ireturn, 28, 0, 0, 0, 0)) none)) (cond (Nat.beq pc 24) (some (.invokevirtual 74, 27, 12, 0, 392, 0)) none)))) (cond (Nat.ble 12 pc) (cond (Nat.ble 19 pc) (cond (Nat.ble 22 pc) (cond (Nat.ble 23 pc) (cond (Nat.beq pc 23) (some (.iconst 1, 24, 0, 0, 0, 0)) none) (cond (Nat.beq pc 22) (some (.aload_n 0, 23, 0, 0, 0, 0)) none)) (cond (Nat.beq pc 19) (some (.ifCond .ne 9, 22, 28, 0, 0, 0)) none)) (cond (Nat.ble 15 pc) (cond (Nat.ble 16 pc) (cond (Nat.beq pc 16) (some (.invokevirtual 161, 19, 29, 1, 651, 0)) none) (cond (Nat.beq pc 15) (some (.iload_n 2, 16, 0, 0, 0, 0)) none)) (cond (Nat.beq pc 12) (some (.getfield 19, 15, 9, 1, 358, 0)) none))) (cond (Nat.ble 5 pc) (cond (Nat.ble 8 pc) (cond (Nat.ble 11 pc) (cond (Nat.beq pc 11) (some (.aload_n 0, 12, 0, 0, 0, 0)) none) (cond (Nat.beq pc 8) (some (.ifCond .eq 14, 11, 22, 0, 0, 0)) none)) (cond (Nat.beq pc 5) (some (.invokevirtual 120, 8, 33, 1, 476, 0)) none)) (cond (Nat.ble 1 pc) (cond (Nat.ble 4 pc) (cond (Nat.beq pc 4) (some (.iload_n 1, 5, 0, 0, 0, 0)) none) (cond (Nat.beq pc 1) (some (.getfield 26, 4, 9, 2, 359, 0)) none)) (cond (Nat.beq pc 0) (some (.aload_n 0, 1, 0, 0, 0, 0)) none)))))
def rc_90 (pc : Nat) : Option RI := cond (Nat.ble 25 pc) none (cond (Nat.ble 9 pc) (cond (Nat.ble 17 pc) (cond (Nat.ble 21 pc) (cond (Nat.ble 24 pc) (cond (Nat.beq pc 24) (some (.ireturn, 25, 0, 0, 0, 0)) none) (cond (Nat.beq pc 21) (some (.getfield 39, 24, 1, 8, 314, 0)) none)) (cond (Nat.ble 20 pc) (cond (Nat.beq pc 20) (some (.aload_n 0, 21, 0, 0, 0, 0)) none) (cond (Nat.beq pc 17) (some (.invokevirtual 56, 20, 98, 0, 782, 0)) none))) (cond (Nat.ble 13 pc) (cond (Nat.ble 16 pc) (cond (Nat.beq pc 16) (some (.aload_n 0, 17, 0, 0, 0, 0)) none) (cond (Nat.beq pc 13) (some (.invokevirtual 53, 16, 95, 0, 768, 0)) none)) (cond (Nat.ble 12 pc) (cond (Nat.beq pc 12) (some (.aload_n 0, 13, 0, 0, 0, 0)) none) (cond (Nat.beq pc 9) (some (.invokevirtual 49, 12, 93, 0, 761, 0)) none)))) (cond (Nat.ble 3 pc) (cond (Nat.ble 7 pc) (cond (Nat.ble 8 pc) (cond (Nat.beq pc 8) (some (.aload_n 1, 9, 0, 0, 0, 0)) none) (cond (Nat.beq pc 7) (some (.aload_n 0, 8, 0, 0, 0, 0)) none)) (cond (Nat.ble 4 pc) (cond (Nat.beq pc 4) (some (.invokevirtual 45, 7, 91, 0, 751, 0)) none) (cond (Nat.beq pc 3) (some (.iload_n 3, 4, 0, 0, 0, 0)) none))) (cond (Nat.ble 1 pc) (cond (Nat.ble 2 pc) (cond (Nat.beq pc 2) (some (.iload_n 2, 3, 0, 0, 0, 0)) none) (cond (Nat.beq pc 1) (some (.aload_n 1, 2, 0, 0, 0, 0)) none)) (cond (Nat.beq pc 0) (some (.aload_n 0, 1, 0, 0, 0, 0)) none))))
def rc_91 (pc : Nat) : Option RI := cond (Nat.ble 134 pc) none (cond (Nat.ble 67 pc) (cond (Nat.ble 98 pc) (cond (Nat.ble 117 pc) (cond (Nat.ble 123 pc) (cond (Nat.ble 127 pc) (cond (Nat.ble 130 pc) (cond (Nat.ble 133 pc) (cond (Nat.beq pc 133) (some (.return_, 134, 0, 0, 0, 0)) none) (cond (Nat.beq pc 130) (some (.goto (-117), 133, 13, 0, 0, 0)) none)) (cond (Nat.beq pc 127) (some (.iinc 4 1, 130, 0, 0, 0, 0)) none)) (cond (Nat.ble 124 pc) (cond (Nat.beq pc 124) (some (.putfield 32, 127, 1, 6, 312, 0)) none) (cond (Nat.beq pc 123) (some (.iadd, 124, 0, 0, 0, 0)) none))) (cond (Nat.ble 119 pc) (cond (Nat.ble 122 pc) (cond (Nat.beq pc 122) (some (.iconst 1, 123, 0, 0, 0, 0)) none) (cond (Nat.beq pc 119) (some (.getfield 32, 122, 1, 6, 312, 0)) none)) (cond (Nat.ble 118 pc) (cond (Nat.beq pc 118) (some (.dup, 119, 0, 0, 0, 0)) none) (cond (Nat.beq pc 117) (some (.aload_n 0, 118, 0, 0, 0, 0)) none)))) (cond (Nat.ble 107 pc) (cond (Nat.ble 111 pc) (cond (Nat.ble 114 pc) (cond (Nat.ble 116 pc) (cond (Nat.beq pc 116) (some (.iastore, 117, 0, 0, 0, 0)) none) (cond (Nat.beq pc 114) (some (.iload 4, 116, 0, 0, 0, 0)) none)) (cond (Nat.beq pc 111) (some (.getfield 32, 114, 1, 6, 312, 0)) none)) (cond (Nat.ble 110 pc) (cond (Nat.beq pc 110) (some (.aload_n 0, 111, 0, 0, 0, 0)) none) (cond (Nat.beq pc 107) (some (.getfield 9, 110, 1, 0, 306, 0)) none))) (cond (Nat.ble 103 pc) (cond (Nat.ble 106 pc) (cond (Nat.beq pc 106) (some (.aload_n 0, 107, 0, 0, 0, 0)) none) (cond (Nat.beq pc 103) (some (.if_icmp .ge 24, 106, 127, 0, 0, 0)) none)) (cond (Nat.ble 101 pc) (cond (Nat.beq pc 101) (some (.bipush 6, 103, 0, 0, 0, 0)) none) (cond (Nat.beq pc 98) (some (.getfield 32, 101, 1, 6, 312, 0)) none))))) (cond (Nat.ble 80 pc) (cond (Nat.ble 88 pc) (cond (Nat.ble 93 pc) (cond (Nat.ble 94 pc) (cond (Nat.ble 97 pc) (cond (Nat.beq pc 97) (some (.aload_n 0, 98, 0, 0, 0, 0)) none) (cond (Nat.beq pc 94) (some (.if_icmp .ne 33, 97, 127, 0, 0, 0)) none)) (cond (Nat.beq pc 93) (some (.iload_n 2, 94, 0, 0, 0, 0)) none)) (cond (Nat.ble 90 pc) (cond (Nat.beq pc 90) (some (.invokevirtual 72, 93, 92, 1, 757, 0)) none) (cond (Nat.beq pc 88) (some (.iload 4, 90, 0, 0, 0, 0)) none))) (cond (Nat.ble 84 pc) (cond (Nat.ble 87 pc) (cond (Nat.beq pc 87) (some (.aload_n 1, 88, 0, 0, 0, 0)) none) (cond (Nat.beq pc 84) (some (.goto 43, 87, 127, 0, 0, 0)) none)) (cond (Nat.ble 81 pc) (cond (Nat.beq pc 81) (some (.putfield 36, 84, 1, 7, 313, 0)) none) (cond (Nat.beq pc 80) (some (.iadd, 81, 0, 0, 0, 0)) none)))) (cond (Nat.ble 74 pc) (cond (Nat.ble 76 pc) (cond (Nat.ble 79 pc) (cond (Nat.beq pc 79) (some (.iconst 1, 80, 0, 0, 0, 0)) none) (cond (Nat.beq pc 76) (some (.getfield 36, 79, 1, 7, 313, 0)) none)) (cond (Nat.ble 75 pc) (cond (Nat.beq pc 75) (some (.dup, 76, 0, 0, 0, 0)) none) (cond (Nat.beq pc 74) (some (.aload_n 0, 75, 0, 0, 0, 0)) none))) (cond (Nat.ble 71 pc) (cond (Nat.ble 73 pc) (cond (Nat.beq pc 73) (some (.iastore, 74, 0, 0, 0, 0)) none) (cond (Nat.beq pc 71) (some (.iload 4, 73, 0, 0, 0, 0)) none)) (cond (Nat.ble 68 pc) (cond (Nat.beq pc 68) (some (.getfield 36, 71, 1, 7, 313, 0)) none) (cond (Nat.beq pc 67) (some (.aload_n 0, 68, 0, 0, 0, 0)) none)))))) (cond (Nat.ble 31 pc) (cond (Nat.ble 46 pc) (cond (Nat.ble 55 pc) (cond (Nat.ble 60 pc) (cond (Nat.ble 63 pc) (cond (Nat.ble 64 pc) (cond (Nat.beq pc 64) (some (.getfield 15, 67, 1, 1, 307, 0)) none) (cond (Nat.beq pc 63) (some (.aload_n 0, 64, 0, 0, 0, 0)) none)) (cond (Nat.beq pc 60) (some (.if_icmp .ge 67, 63, 127, 0, 0, 0)) none)) (cond (Nat.ble 58 pc) (cond (Nat.beq pc 58) (some (.bipush 6, 60, 0, 0, 0, 0)) none) (cond (Nat.beq pc 55) (some (.getfield 36, 58, 1, 7, 313, 0)) none))) (cond (Nat.ble 51 pc) (cond (Nat.ble 54 pc) (cond (Nat.beq pc 54) (some (.aload_n 0, 55, 0, 0, 0, 0)) none) (cond (Nat.beq pc 51) (some (.ifCond .eq 36, 54, 87, 0, 0, 0)) none)) (cond (Nat.ble 48 pc) (cond (Nat.beq pc 48) (some (.invokevirtual 68, 51, 70, 1, 756, 0)) none) (cond (Nat.beq pc 46) (some (.iload 4, 48, 0, 0, 0, 0)) none)))) (cond (Nat.ble 38 pc) (cond (Nat.ble 42 pc) (cond (Nat.ble 45 pc) (cond (Nat.beq pc 45) (some (.aload_n 1, 46, 0, 0, 0, 0)) none) (cond (Nat.beq pc 42) (some (.if_icmp .ne 85, 45, 127, 0, 0, 0)) none)) (cond (Nat.ble 41 pc) (cond (Nat.beq pc 41) (some (.iload_n 3, 42, 0, 0, 0, 0)) none) (cond (Nat.beq pc 38) (some (.invokevirtual 64, 41, 63, 1, 755, 0)) none))) (cond (Nat.ble 35 pc) (cond (Nat.ble 37 pc) (cond (Nat.beq pc 37) (some (.iconst 5, 38, 0, 0, 0, 0)) none) (cond (Nat.beq pc 35) (some (.iload 4, 37, 0, 0, 0, 0)) none)) (cond (Nat.ble 34 pc) (cond (Nat.beq pc 34) (some (.aload_n 1, 35, 0, 0, 0, 0)) none) (cond (Nat.beq pc 31) (some (.if_icmp .ne 96, 34, 127, 0, 0, 0)) none))))) (cond (Nat.ble 13 pc) (cond (Nat.ble 22 pc) (cond (Nat.ble 25 pc) (cond (Nat.ble 27 pc) (cond (Nat.ble 30 pc) (cond (Nat.beq pc 30) (some (.iload_n 2, 31, 0, 0, 0, 0)) none) (cond (Nat.beq pc 27) (some (.invokevirtual 64, 30, 63, 1, 755, 0)) none)) (cond (Nat.beq pc 25) (some (.bipush 6, 27, 0, 0, 0, 0)) none)) (cond (Nat.ble 23 pc) (cond (Nat.beq pc 23) (some (.iload 4, 25, 0, 0, 0, 0)) none) (cond (Nat.beq pc 22) (some (.aload_n 1, 23, 0, 0, 0, 0)) none))) (cond (Nat.ble 16 pc) (cond (Nat.ble 19 pc) (cond (Nat.beq pc 19) (some (.if_icmp .ge 114, 22, 133, 0, 0, 0)) none) (cond (Nat.beq pc 16) (some (.getfield 59, 19, 6, 2, 219, 0)) none)) (cond (Nat.ble 15 pc) (cond (Nat.beq pc 15) (some (.aload_n 1, 16, 0, 0, 0, 0)) none) (cond (Nat.beq pc 13) (some (.iload 4, 15, 0, 0, 0, 0)) none)))) (cond (Nat.ble 6 pc) (cond (Nat.ble 10 pc) (cond (Nat.ble 11 pc) (cond (Nat.beq pc 11) (some (.istore 4, 13, 0, 0, 0, 0)) none) (cond (Nat.beq pc 10) (some (.iconst 0, 11, 0, 0, 0, 0)) none)) (cond (Nat.ble 7 pc) (cond (Nat.beq pc 7) (some (.putfield 36, 10, 1, 7, 313, 0)) none) (cond (Nat.beq pc 6) (some (.iconst 0, 7, 0, 0, 0, 0)) none))) (cond (Nat.ble 2 pc) (cond (Nat.ble 5 pc) (cond (Nat.beq pc 5) (some (.aload_n 0, 6, 0, 0, 0, 0)) none) (cond (Nat.beq pc 2) (some (.putfield 32, 5, 1, 6, 312, 0)) none)) (cond (Nat.ble 1 pc) (cond (Nat.beq pc 1) (some (.iconst 0, 2, 0, 0, 0, 0)) none) (cond (Nat.beq pc 0) (some (.aload_n 0, 1, 0, 0, 0, 0)) none)))))))
def rc_92 (pc : Nat) : Option RI := cond (Nat.ble 13 pc) none (cond (Nat.ble 5 pc) (cond (Nat.ble 9 pc) (cond (Nat.ble 12 pc) (cond (Nat.beq pc 12) (some (.ireturn, 13, 0, 0, 0, 0)) none) (cond (Nat.beq pc 9) (some (.invokevirtual 30, 12, 65, 0, 669, 0)) none)) (cond (Nat.ble 8 pc) (cond (Nat.beq pc 8) (some (.iconst 1, 9, 0, 0, 0, 0)) none) (cond (Nat.beq pc 5) (some (.invokevirtual 26, 8, 63, 0, 660, 0)) none))) (cond (Nat.ble 2 pc) (cond (Nat.ble 3 pc) (cond (Nat.beq pc 3) (some (.bipush 7, 5, 0, 0, 0, 0)) none) (cond (Nat.beq pc 2) (some (.iload_n 1, 3, 0, 0, 0, 0)) none)) (cond (Nat.ble 1 pc) (cond (Nat.beq pc 1) (some (.aload_n 0, 2, 0, 0, 0, 0)) none) (cond (Nat.beq pc 0) (some (.aload_n 0, 1, 0, 0, 0, 0)) none))))
def rc_93 (pc : Nat) : Option RI := cond (Nat.ble 94 pc) none (cond (Nat.ble 43 pc) (cond (Nat.ble 68 pc) (cond (Nat.ble 78 pc) (cond (Nat.ble 84 pc) (cond (Nat.ble 90 pc) (cond (Nat.ble 93 pc) (cond (Nat.beq pc 93) (some (.return_, 94, 0, 0, 0, 0)) none) (cond (Nat.beq pc 90) (some (.goto (-88), 93, 2, 0, 0, 0)) none)) (cond (Nat.ble 87 pc) (cond (Nat.beq pc 87) (some (.iinc 2 1, 90, 0, 0, 0, 0)) none) (cond (Nat.beq pc 84) (some (.goto (-72), 87, 12, 0, 0, 0)) none))) (cond (Nat.ble 80 pc) (cond (Nat.ble 81 pc) (cond (Nat.beq pc 81) (some (.iinc 3 1, 84, 0, 0, 0, 0)) none) (cond (Nat.beq pc 80) (some (.iastore, 81, 0, 0, 0, 0)) none)) (cond (Nat.beq pc 78) (some (.iload 4, 80, 0, 0, 0, 0)) none))) (cond (Nat.ble 75 pc) (cond (Nat.ble 76 pc) (cond (Nat.ble 77 pc) (cond (Nat.beq pc 77) (some (.iload_n 3, 78, 0, 0, 0, 0)) none) (cond (Nat.beq pc 76) (some (.aaload, 77, 0, 0, 0, 0)) none)) (cond (Nat.beq pc 75) (some (.iload_n 2, 76, 0, 0, 0, 0)) none)) (cond (Nat.ble 71 pc) (cond (Nat.ble 72 pc) (cond (Nat.beq pc 72) (some (.getfield 20, 75, 1, 2, 308, 0)) none) (cond (Nat.beq pc 71) (some (.aload_n 0, 72, 0, 0, 0, 0)) none)) (cond (Nat.beq pc 68) (some (.goto (-42), 71, 26, 0, 0, 0)) none)))) (cond (Nat.ble 53 pc) (cond (Nat.ble 59 pc) (cond (Nat.ble 63 pc) (cond (Nat.ble 65 pc) (cond (Nat.beq pc 65) (some (.iinc 5 1, 68, 0, 0, 0, 0)) none) (cond (Nat.beq pc 63) (some (.istore 4, 65, 0, 0, 0, 0)) none)) (cond (Nat.ble 62 pc) (cond (Nat.beq pc 62) (some (.iadd, 63, 0, 0, 0, 0)) none) (cond (Nat.beq pc 59) (some (.invokestatic 76, 62, 94, 0, 765, 0)) none))) (cond (Nat.ble 55 pc) (cond (Nat.ble 58 pc) (cond (Nat.beq pc 58) (some (.isub, 59, 0, 0, 0, 0)) none) (cond (Nat.beq pc 55) (some (.invokevirtual 64, 58, 63, 1, 755, 0)) none)) (cond (Nat.beq pc 53) (some (.iload 5, 55, 0, 0, 0, 0)) none))) (cond (Nat.ble 48 pc) (cond (Nat.ble 51 pc) (cond (Nat.ble 52 pc) (cond (Nat.beq pc 52) (some (.iaload, 53, 0, 0, 0, 0)) none) (cond (Nat.beq pc 51) (some (.iload_n 3, 52, 0, 0, 0, 0)) none)) (cond (Nat.beq pc 48) (some (.getfield 15, 51, 1, 1, 307, 0)) none)) (cond (Nat.ble 46 pc) (cond (Nat.ble 47 pc) (cond (Nat.beq pc 47) (some (.aload_n 0, 48, 0, 0, 0, 0)) none) (cond (Nat.beq pc 46) (some (.aload_n 1, 47, 0, 0, 0, 0)) none)) (cond (Nat.beq pc 43) (some (.invokevirtual 64, 46, 63, 1, 755, 0)) none))))) (cond (Nat.ble 21 pc) (cond (Nat.ble 32 pc) (cond (Nat.ble 36 pc) (cond (Nat.ble 40 pc) (cond (Nat.ble 41 pc) (cond (Nat.beq pc 41) (some (.iload 5, 43, 0, 0, 0, 0)) none) (cond (Nat.beq pc 40) (some (.iaload, 41, 0, 0, 0, 0)) none)) (cond (Nat.ble 39 pc) (cond (Nat.beq pc 39) (some (.iload_n 2, 40, 0, 0, 0, 0)) none) (cond (Nat.beq pc 36) (some (.getfield 9, 39, 1, 0, 306, 0)) none))) (cond (Nat.ble 34 pc) (cond (Nat.ble 35 pc) (cond (Nat.beq pc 35) (some (.aload_n 0, 36, 0, 0, 0, 0)) none) (cond (Nat.beq pc 34) (some (.aload_n 1, 35, 0, 0, 0, 0)) none)) (cond (Nat.beq pc 32) (some (.iload 4, 34, 0, 0, 0, 0)) none))) (cond (Nat.ble 26 pc) (cond (Nat.ble 28 pc) (cond (Nat.ble 29 pc) (cond (Nat.beq pc 29) (some (.if_icmp .ge 42, 32, 71, 0, 0, 0)) none) (cond (Nat.beq pc 28) (some (.iconst 5, 29, 0, 0, 0, 0)) none)) (cond (Nat.beq pc 26) (some (.iload 5, 28, 0, 0, 0, 0)) none)) (cond (Nat.ble 23 pc) (cond (Nat.ble 24 pc) (cond (Nat.beq pc 24) (some (.istore 5, 26, 0, 0, 0, 0)) none) (cond (Nat.beq pc 23) (some (.iconst 0, 24, 0, 0, 0, 0)) none)) (cond (Nat.beq pc 21) (some (.istore 4, 23, 0, 0, 0, 0)) none)))) (cond (Nat.ble 10 pc) (cond (Nat.ble 13 pc) (cond (Nat.ble 17 pc) (cond (Nat.ble 20 pc) (cond (Nat.beq pc 20) (some (.iconst 0, 21, 0, 0, 0, 0)) none) (cond (Nat.beq pc 17) (some (.if_icmp .ge 70, 20, 87, 0, 0, 0)) none)) (cond (Nat.ble 14 pc) (cond (Nat.beq pc 14) (some (.getfield 36, 17, 1, 7, 313, 0)) none) (cond (Nat.beq pc 13) (some (.aload_n 0, 14, 0, 0, 0, 0)) none))) (cond (Nat.ble 11 pc) (cond (Nat.ble 12 pc) (cond (Nat.beq pc 12) (some (.iload_n 3, 13, 0, 0, 0, 0)) none) (cond (Nat.beq pc 11) (some (.istore_n 3, 12, 0, 0, 0, 0)) none)) (cond (Nat.beq pc 10) (some (.iconst 0, 11, 0, 0, 0, 0)) none))) (cond (Nat.ble 3 pc) (cond (Nat.ble 4 pc) (cond (Nat.ble 7 pc) (cond (Nat.beq pc 7) (some (.if_icmp .ge 86, 10, 93, 0, 0, 0)) none) (cond (Nat.beq pc 4) (some (.getfield 32, 7, 1, 6, 312, 0)) none)) (cond (Nat.beq pc 3) (some (.aload_n 0, 4, 0, 0, 0, 0)) none)) (cond (Nat.ble 1 pc) (cond (Nat.ble 2 pc) (cond (Nat.beq pc 2) (some (.iload_n 2, 3, 0, 0, 0, 0)) none) (cond (Nat.beq pc 1) (some (.istore_n 2, 2, 0, 0, 0, 0)) none)) (cond (Nat.beq pc 0) (some (.iconst 0, 1, 0, 0, 0, 0)) none))))))
def rc_94 (pc : Nat) : Option RI := cond (Nat.ble 11 pc) none (cond (Nat.ble 5 pc) (cond (Nat.ble 9 pc) (cond (Nat.ble 10 pc) (cond (Nat.beq pc 10) (some (.ireturn, 11, 0, 0, 0, 0)) none) (cond (Nat.beq pc 9) (some (.iload_n 0, 10, 0, 0, 0, 0)) none)) (cond (Nat.ble 6 pc) (cond (Nat.beq pc 6) (some (.goto 4, 9, 10, 0, 0, 0)) none) (cond (Nat.beq pc 5) (some (.ineg, 6, 0, 0, 0, 0)) none))) (cond (Nat.ble 1 pc) (cond (Nat.ble 4 pc) (cond (Nat.beq pc 4) (some (.iload_n 0, 5, 0, 0, 0, 0)) none) (cond (Nat.beq pc 1) (some (.ifCond .ge 8, 4, 9, 0, 0, 0)) none)) (cond (Nat.beq pc 0) (some (.iload_n 0, 1, 0, 0, 0, 0)) none)))
def rc_95 (pc : Nat) : Option RI := cond (Nat.ble 80 pc) none (cond (Nat.ble 38 pc) (cond (Nat.ble 58 pc) (cond (Nat.ble 66 pc) (cond (Nat.ble 73 pc) (cond (Nat.ble 76 pc) (cond (Nat.ble 79 pc) (cond (Nat.beq pc 79) (some (.return_, 80, 0, 0, 0, 0)) none) (cond (Nat.beq pc 76) (some (.goto (-39), 79, 37, 0, 0, 0)) none)) (cond (Nat.beq pc 73) (some (.iinc 1 (-1), 76, 0, 0, 0, 0)) none)) (cond (Nat.ble 67 pc) (cond (Nat.ble 70 pc) (cond (Nat.beq pc 70) (some (.goto (-27), 73, 43, 0, 0, 0)) none) (cond (Nat.beq pc 67) (some (.iinc 2 1, 70, 0, 0, 0, 0)) none)) (cond (Nat.beq pc 66) (some (.iastore, 67, 0, 0, 0, 0)) none))) (cond (Nat.ble 61 pc) (cond (Nat.ble 62 pc) (cond (Nat.ble 63 pc) (cond (Nat.beq pc 63) (some (.invokevirtual 81, 66, 96, 0, 772, 0)) none) (cond (Nat.beq pc 62) (some (.iload_n 2, 63, 0, 0, 0, 0)) none)) (cond (Nat.beq pc 61) (some (.iload_n 1, 62, 0, 0, 0, 0)) none)) (cond (Nat.ble 59 pc) (cond (Nat.ble 60 pc) (cond (Nat.beq pc 60) (some (.aload_n 0, 61, 0, 0, 0, 0)) none) (cond (Nat.beq pc 59) (some (.iload_n 2, 60, 0, 0, 0, 0)) none)) (cond (Nat.beq pc 58) (some (.aaload, 59, 0, 0, 0, 0)) none)))) (cond (Nat.ble 46 pc) (cond (Nat.ble 53 pc) (cond (Nat.ble 54 pc) (cond (Nat.ble 57 pc) (cond (Nat.beq pc 57) (some (.iload_n 1, 58, 0, 0, 0, 0)) none) (cond (Nat.beq pc 54) (some (.getfield 23, 57, 1, 3, 309, 0)) none)) (cond (Nat.beq pc 53) (some (.aload_n 0, 54, 0, 0, 0, 0)) none)) (cond (Nat.ble 49 pc) (cond (Nat.ble 50 pc) (cond (Nat.beq pc 50) (some (.if_icmp .ge 23, 53, 73, 0, 0, 0)) none) (cond (Nat.beq pc 49) (some (.ishl, 50, 0, 0, 0, 0)) none)) (cond (Nat.beq pc 46) (some (.getfield 36, 49, 1, 7, 313, 0)) none))) (cond (Nat.ble 43 pc) (cond (Nat.ble 44 pc) (cond (Nat.ble 45 pc) (cond (Nat.beq pc 45) (some (.aload_n 0, 46, 0, 0, 0, 0)) none) (cond (Nat.beq pc 44) (some (.iconst 1, 45, 0, 0, 0, 0)) none)) (cond (Nat.beq pc 43) (some (.iload_n 2, 44, 0, 0, 0, 0)) none)) (cond (Nat.ble 41 pc) (cond (Nat.ble 42 pc) (cond (Nat.beq pc 42) (some (.istore_n 2, 43, 0, 0, 0, 0)) none) (cond (Nat.beq pc 41) (some (.iconst 0, 42, 0, 0, 0, 0)) none)) (cond (Nat.beq pc 38) (some (.ifCond .lt 41, 41, 79, 0, 0, 0)) none))))) (cond (Nat.ble 20 pc) (cond (Nat.ble 30 pc) (cond (Nat.ble 35 pc) (cond (Nat.ble 36 pc) (cond (Nat.ble 37 pc) (cond (Nat.beq pc 37) (some (.iload_n 1, 38, 0, 0, 0, 0)) none) (cond (Nat.beq pc 36) (some (.istore_n 1, 37, 0, 0, 0, 0)) none)) (cond (Nat.beq pc 35) (some (.isub, 36, 0, 0, 0, 0)) none)) (cond (Nat.ble 31 pc) (cond (Nat.ble 34 pc) (cond (Nat.beq pc 34) (some (.iconst 1, 35, 0, 0, 0, 0)) none) (cond (Nat.beq pc 31) (some (.getfield 32, 34, 1, 6, 312, 0)) none)) (cond (Nat.beq pc 30) (some (.aload_n 0, 31, 0, 0, 0, 0)) none))) (cond (Nat.ble 23 pc) (cond (Nat.ble 24 pc) (cond (Nat.ble 27 pc) (cond (Nat.beq pc 27) (some (.goto (-25), 30, 2, 0, 0, 0)) none) (cond (Nat.beq pc 24) (some (.iinc 1 1, 27, 0, 0, 0, 0)) none)) (cond (Nat.beq pc 23) (some (.iastore, 24, 0, 0, 0, 0)) none)) (cond (Nat.ble 21 pc) (cond (Nat.ble 22 pc) (cond (Nat.beq pc 22) (some (.iconst 0, 23, 0, 0, 0, 0)) none) (cond (Nat.beq pc 21) (some (.iload_n 1, 22, 0, 0, 0, 0)) none)) (cond (Nat.beq pc 20) (some (.aaload, 21, 0, 0, 0, 0)) none)))) (cond (Nat.ble 8 pc) (cond (Nat.ble 13 pc) (cond (Nat.ble 16 pc) (cond (Nat.ble 17 pc) (cond (Nat.beq pc 17) (some (.getfield 32, 20, 1, 6, 312, 0)) none) (cond (Nat.beq pc 16) (some (.aload_n 0, 17, 0, 0, 0, 0)) none)) (cond (Nat.beq pc 13) (some (.getfield 23, 16, 1, 3, 309, 0)) none)) (cond (Nat.ble 9 pc) (cond (Nat.ble 12 pc) (cond (Nat.beq pc 12) (some (.aload_n 0, 13, 0, 0, 0, 0)) none) (cond (Nat.beq pc 9) (some (.if_icmp .ge 21, 12, 30, 0, 0, 0)) none)) (cond (Nat.beq pc 8) (some (.ishl, 9, 0, 0, 0, 0)) none))) (cond (Nat.ble 3 pc) (cond (Nat.ble 4 pc) (cond (Nat.ble 5 pc) (cond (Nat.beq pc 5) (some (.getfield 36, 8, 1, 7, 313, 0)) none) (cond (Nat.beq pc 4) (some (.aload_n 0, 5, 0, 0, 0, 0)) none)) (cond (Nat.beq pc 3) (some (.iconst 1, 4, 0, 0, 0, 0)) none)) (cond (Nat.ble 1 pc) (cond (Nat.ble 2 pc) (cond (Nat.beq pc 2) (some (.iload_n 1, 3, 0, 0, 0, 0)) none) (cond (Nat.beq pc 1) (some (.istore_n 1, 2, 0, 0, 0, 0)) none)) (cond (Nat.beq pc 0) (some (.iconst 0, 1, 0, 0, 0, 0)) none))))))
def rc_96 (pc : Nat) : Option RI := cond (Nat.ble 56 pc) none (cond (Nat.ble 26 pc) (cond (Nat.ble 38 pc) (cond (Nat.ble 47 pc) (cond (Nat.ble 51 pc) (cond (Nat.ble 54 pc) (cond (Nat.ble 55 pc) (cond (Nat.beq pc 55) (some (.ireturn, 56, 0, 0, 0, 0)) none) (cond (Nat.beq pc 54) (some (.iload_n 3, 55, 0, 0, 0, 0)) none)) (cond (Nat.beq pc 51) (some (.goto (-34), 54, 17, 0, 0, 0)) none)) (cond (Nat.ble 48 pc) (cond (Nat.beq pc 48) (some (.iinc 4 1, 51, 0, 0, 0, 0)) none) (cond (Nat.beq pc 47) (some (.istore_n 3, 48, 0, 0, 0, 0)) none))) (cond (Nat.ble 41 pc) (cond (Nat.ble 44 pc) (cond (Nat.beq pc 44) (some (.invokestatic 89, 47, 4, 0, 781, 0)) none) (cond (Nat.beq pc 41) (some (.invokevirtual 85, 44, 97, 0, 777, 0)) none)) (cond (Nat.ble 40 pc) (cond (Nat.beq pc 40) (some (.iload_n 2, 41, 0, 0, 0, 0)) none) (cond (Nat.beq pc 38) (some (.iload 4, 40, 0, 0, 0, 0)) none)))) (cond (Nat.ble 31 pc) (cond (Nat.ble 35 pc) (cond (Nat.ble 36 pc) (cond (Nat.ble 37 pc) (cond (Nat.beq pc 37) (some (.iload_n 1, 38, 0, 0, 0, 0)) none) (cond (Nat.beq pc 36) (some (.aload_n 0, 37, 0, 0, 0, 0)) none)) (cond (Nat.beq pc 35) (some (.iload_n 3, 36, 0, 0, 0, 0)) none)) (cond (Nat.ble 32 pc) (cond (Nat.beq pc 32) (some (.ifCond .ne 16, 35, 48, 0, 0, 0)) none) (cond (Nat.beq pc 31) (some (.iand, 32, 0, 0, 0, 0)) none))) (cond (Nat.ble 28 pc) (cond (Nat.ble 30 pc) (cond (Nat.beq pc 30) (some (.ishl, 31, 0, 0, 0, 0)) none) (cond (Nat.beq pc 28) (some (.iload 4, 30, 0, 0, 0, 0)) none)) (cond (Nat.ble 27 pc) (cond (Nat.beq pc 27) (some (.iconst 1, 28, 0, 0, 0, 0)) none) (cond (Nat.beq pc 26) (some (.iload_n 2, 27, 0, 0, 0, 0)) none))))) (cond (Nat.ble 11 pc) (cond (Nat.ble 15 pc) (cond (Nat.ble 19 pc) (cond (Nat.ble 20 pc) (cond (Nat.ble 23 pc) (cond (Nat.beq pc 23) (some (.if_icmp .ge 31, 26, 54, 0, 0, 0)) none) (cond (Nat.beq pc 20) (some (.getfield 36, 23, 1, 7, 313, 0)) none)) (cond (Nat.beq pc 19) (some (.aload_n 0, 20, 0, 0, 0, 0)) none)) (cond (Nat.ble 17 pc) (cond (Nat.beq pc 17) (some (.iload 4, 19, 0, 0, 0, 0)) none) (cond (Nat.beq pc 15) (some (.istore 4, 17, 0, 0, 0, 0)) none))) (cond (Nat.ble 13 pc) (cond (Nat.ble 14 pc) (cond (Nat.beq pc 14) (some (.iconst 0, 15, 0, 0, 0, 0)) none) (cond (Nat.beq pc 13) (some (.istore_n 3, 14, 0, 0, 0, 0)) none)) (cond (Nat.ble 12 pc) (cond (Nat.beq pc 12) (some (.iadd, 13, 0, 0, 0, 0)) none) (cond (Nat.beq pc 11) (some (.iaload, 12, 0, 0, 0, 0)) none)))) (cond (Nat.ble 7 pc) (cond (Nat.ble 9 pc) (cond (Nat.ble 10 pc) (cond (Nat.beq pc 10) (some (.iload_n 2, 11, 0, 0, 0, 0)) none) (cond (Nat.beq pc 9) (some (.aaload, 10, 0, 0, 0, 0)) none)) (cond (Nat.ble 8 pc) (cond (Nat.beq pc 8) (some (.iadd, 9, 0, 0, 0, 0)) none) (cond (Nat.beq pc 7) (some (.iconst 1, 8, 0, 0, 0, 0)) none))) (cond (Nat.ble 3 pc) (cond (Nat.ble 6 pc) (cond (Nat.beq pc 6) (some (.iload_n 1, 7, 0, 0, 0, 0)) none) (cond (Nat.beq pc 3) (some (.getfield 23, 6, 1, 3, 309, 0)) none)) (cond (Nat.ble 2 pc) (cond (Nat.beq pc 2) (some (.aload_n 0, 3, 0, 0, 0, 0)) none) (cond (Nat.beq pc 0) (some (.ldc 84, 2, 0, 0, 776, 1000000)) none))))))
def rc_97 (pc : Nat) : Option RI := cond (Nat.ble 24 pc) none (cond (Nat.ble 14 pc) (cond (Nat.ble 19 pc) (cond (Nat.ble 21 pc) (cond (Nat.ble 22 pc) (cond (Nat.ble 23 pc) (cond (Nat.beq pc 23) (some (.ireturn, 24, 0, 0, 0, 0)) none) (cond (Nat.beq pc 22) (some (.iadd, 23, 0, 0, 0, 0)) none)) (cond (Nat.beq pc 21) (some (.iaload, 22, 0, 0, 0, 0)) none)) (cond (Nat.ble 20 pc) (cond (Nat.beq pc 20) (some (.ior, 21, 0, 0, 0, 0)) none) (cond (Nat.beq pc 19) (some (.ishl, 20, 0, 0, 0, 0)) none))) (cond (Nat.ble 16 pc) (cond (Nat.ble 17 pc) (cond (Nat.ble 18 pc) (cond (Nat.beq pc 18) (some (.iload_n 2, 19, 0, 0, 0, 0)) none) (cond (Nat.beq pc 17) (some (.iconst 1, 18, 0, 0, 0, 0)) none)) (cond (Nat.beq pc 16) (some (.iload_n 3, 17, 0, 0, 0, 0)) none)) (cond (Nat.ble 15 pc) (cond (Nat.beq pc 15) (some (.aaload, 16, 0, 0, 0, 0)) none) (cond (Nat.beq pc 14) (some (.iadd, 15, 0, 0, 0, 0)) none)))) (cond (Nat.ble 7 pc) (cond (Nat.ble 9 pc) (cond (Nat.ble 12 pc) (cond (Nat.ble 13 pc) (cond (Nat.beq pc 13) (some (.iconst 1, 14, 0, 0, 0, 0)) none) (cond (Nat.beq pc 12) (some (.iload_n 1, 13, 0, 0, 0, 0)) none)) (cond (Nat.beq pc 9) (some (.getfield 23, 12, 1, 3, 309, 0)) none)) (cond (Nat.ble 8 pc) (cond (Nat.beq pc 8) (some (.aload_n 0, 9, 0, 0, 0, 0)) none) (cond (Nat.beq pc 7) (some (.iaload, 8, 0, 0, 0, 0)) none))) (cond (Nat.ble 4 pc) (cond (Nat.ble 5 pc) (cond (Nat.ble 6 pc) (cond (Nat.beq pc 6) (some (.iload_n 2, 7, 0, 0, 0, 0)) none) (cond (Nat.beq pc 5) (some (.aaload, 6, 0, 0, 0, 0)) none)) (cond (Nat.beq pc 4) (some (.iload_n 1, 5, 0, 0, 0, 0)) none)) (cond (Nat.ble 1 pc) (cond (Nat.beq pc 1) (some (.getfield 20, 4, 1, 2, 308, 0)) none) (cond (Nat.beq pc 0) (some (.aload_n 0, 1, 0, 0, 0, 0)) none)))))
def rc_98 (pc : Nat) : Option RI := cond (Nat.ble 104 pc) none (cond (Nat.ble 53 pc) (cond (Nat.ble 79 pc) (cond (Nat.ble 91 pc) (cond (Nat.ble 95 pc) (cond (Nat.ble 97 pc) (cond (Nat.ble 100 pc) (cond (Nat.ble 103 pc) (cond (Nat.beq pc 103) (some (.return_, 104, 0, 0, 0, 0)) none) (cond (Nat.beq pc 100) (some (.goto (-86), 103, 14, 0, 0, 0)) none)) (cond (Nat.beq pc 97) (some (.iinc 2 1, 100, 0, 0, 0, 0)) none)) (cond (Nat.ble 96 pc) (cond (Nat.beq pc 96) (some (.istore_n 1, 97, 0, 0, 0, 0)) none) (cond (Nat.beq pc 95) (some (.ior, 96, 0, 0, 0, 0)) none))) (cond (Nat.ble 93 pc) (cond (Nat.ble 94 pc) (cond (Nat.beq pc 94) (some (.ishl, 95, 0, 0, 0, 0)) none) (cond (Nat.beq pc 93) (some (.iload_n 3, 94, 0, 0, 0, 0)) none)) (cond (Nat.ble 92 pc) (cond (Nat.beq pc 92) (some (.iconst 1, 93, 0, 0, 0, 0)) none) (cond (Nat.beq pc 91) (some (.iload_n 1, 92, 0, 0, 0, 0)) none)))) (cond (Nat.ble 85 pc) (cond (Nat.ble 87 pc) (cond (Nat.ble 88 pc) (cond (Nat.beq pc 88) (some (.putfield 42, 91, 1, 9, 315, 0)) none) (cond (Nat.beq pc 87) (some (.iadd, 88, 0, 0, 0, 0)) none)) (cond (Nat.ble 86 pc) (cond (Nat.beq pc 86) (some (.iaload, 87, 0, 0, 0, 0)) none) (cond (Nat.beq pc 85) (some (.iload_n 3, 86, 0, 0, 0, 0)) none))) (cond (Nat.ble 83 pc) (cond (Nat.ble 84 pc) (cond (Nat.beq pc 84) (some (.aaload, 85, 0, 0, 0, 0)) none) (cond (Nat.beq pc 83) (some (.iload_n 2, 84, 0, 0, 0, 0)) none)) (cond (Nat.ble 80 pc) (cond (Nat.beq pc 80) (some (.getfield 20, 83, 1, 2, 308, 0)) none) (cond (Nat.beq pc 79) (some (.aload_n 0, 80, 0, 0, 0, 0)) none))))) (cond (Nat.ble 65 pc) (cond (Nat.ble 71 pc) (cond (Nat.ble 75 pc) (cond (Nat.ble 76 pc) (cond (Nat.beq pc 76) (some (.getfield 42, 79, 1, 9, 315, 0)) none) (cond (Nat.beq pc 75) (some (.dup, 76, 0, 0, 0, 0)) none)) (cond (Nat.ble 74 pc) (cond (Nat.beq pc 74) (some (.aload_n 0, 75, 0, 0, 0, 0)) none) (cond (Nat.beq pc 71) (some (.putfield 39, 74, 1, 8, 314, 0)) none))) (cond (Nat.ble 69 pc) (cond (Nat.ble 70 pc) (cond (Nat.beq pc 70) (some (.iadd, 71, 0, 0, 0, 0)) none) (cond (Nat.beq pc 69) (some (.iconst 1, 70, 0, 0, 0, 0)) none)) (cond (Nat.ble 66 pc) (cond (Nat.beq pc 66) (some (.getfield 39, 69, 1, 8, 314, 0)) none) (cond (Nat.beq pc 65) (some (.dup, 66, 0, 0, 0, 0)) none)))) (cond (Nat.ble 61 pc) (cond (Nat.ble 63 pc) (cond (Nat.ble 64 pc) (cond (Nat.beq pc 64) (some (.aload_n 0, 65, 0, 0, 0, 0)) none) (cond (Nat.beq pc 63) (some (.iastore, 64, 0, 0, 0, 0)) none)) (cond (Nat.ble 62 pc) (cond (Nat.beq pc 62) (some (.iaload, 63, 0, 0, 0, 0)) none) (cond (Nat.beq pc 61) (some (.iload_n 3, 62, 0, 0, 0, 0)) none))) (cond (Nat.ble 57 pc) (cond (Nat.ble 58 pc) (cond (Nat.beq pc 58) (some (.getfield 15, 61, 1, 1, 307, 0)) none) (cond (Nat.beq pc 57) (some (.aload_n 0, 58, 0, 0, 0, 0)) none)) (cond (Nat.ble 54 pc) (cond (Nat.beq pc 54) (some (.getfield 39, 57, 1, 8, 314, 0)) none) (cond (Nat.beq pc 53) (some (.aload_n 0, 54, 0, 0, 0, 0)) none)))))) (cond (Nat.ble 24 pc) (cond (Nat.ble 38 pc) (cond (Nat.ble 46 pc) (cond (Nat.ble 48 pc) (cond (Nat.ble 49 pc) (cond (Nat.ble 50 pc) (cond (Nat.beq pc 50) (some (.getfield 29, 53, 1, 5, 311, 0)) none) (cond (Nat.beq pc 49) (some (.aload_n 0, 50, 0, 0, 0, 0)) none)) (cond (Nat.beq pc 48) (some (.iastore, 49, 0, 0, 0, 0)) none)) (cond (Nat.ble 47 pc) (cond (Nat.beq pc 47) (some (.iaload, 48, 0, 0, 0, 0)) none) (cond (Nat.beq pc 46) (some (.iload_n 2, 47, 0, 0, 0, 0)) none))) (cond (Nat.ble 42 pc) (cond (Nat.ble 43 pc) (cond (Nat.beq pc 43) (some (.getfield 9, 46, 1, 0, 306, 0)) none) (cond (Nat.beq pc 42) (some (.aload_n 0, 43, 0, 0, 0, 0)) none)) (cond (Nat.ble 39 pc) (cond (Nat.beq pc 39) (some (.getfield 39, 42, 1, 8, 314, 0)) none) (cond (Nat.beq pc 38) (some (.aload_n 0, 39, 0, 0, 0, 0)) none)))) (cond (Nat.ble 30 pc) (cond (Nat.ble 34 pc) (cond (Nat.ble 35 pc) (cond (Nat.beq pc 35) (some (.getfield 26, 38, 1, 4, 310, 0)) none) (cond (Nat.beq pc 34) (some (.aload_n 0, 35, 0, 0, 0, 0)) none)) (cond (Nat.ble 31 pc) (cond (Nat.beq pc 31) (some (.if_icmp .eq 66, 34, 97, 0, 0, 0)) none) (cond (Nat.beq pc 30) (some (.iconst (-1), 31, 0, 0, 0, 0)) none))) (cond (Nat.ble 28 pc) (cond (Nat.ble 29 pc) (cond (Nat.beq pc 29) (some (.iload_n 3, 30, 0, 0, 0, 0)) none) (cond (Nat.beq pc 28) (some (.istore_n 3, 29, 0, 0, 0, 0)) none)) (cond (Nat.ble 25 pc) (cond (Nat.beq pc 25) (some (.invokevirtual 92, 28, 99, 0, 786, 0)) none) (cond (Nat.beq pc 24) (some (.iload_n 1, 25, 0, 0, 0, 0)) none))))) (cond (Nat.ble 12 pc) (cond (Nat.ble 16 pc) (cond (Nat.ble 22 pc) (cond (Nat.ble 23 pc) (cond (Nat.beq pc 23) (some (.iload_n 2, 24, 0, 0, 0, 0)) none) (cond (Nat.beq pc 22) (some (.aload_n 0, 23, 0, 0, 0, 0)) none)) (cond (Nat.ble 19 pc) (cond (Nat.beq pc 19) (some (.if_icmp .ge 84, 22, 103, 0, 0, 0)) none) (cond (Nat.beq pc 16) (some (.getfield 32, 19, 1, 6, 312, 0)) none))) (cond (Nat.ble 14 pc) (cond (Nat.ble 15 pc) (cond (Nat.beq pc 15) (some (.aload_n 0, 16, 0, 0, 0, 0)) none) (cond (Nat.beq pc 14) (some (.iload_n 2, 15, 0, 0, 0, 0)) none)) (cond (Nat.ble 13 pc) (cond (Nat.beq pc 13) (some (.istore_n 2, 14, 0, 0, 0, 0)) none) (cond (Nat.beq pc 12) (some (.iconst 0, 13, 0, 0, 0, 0)) none)))) (cond (Nat.ble 4 pc) (cond (Nat.ble 8 pc) (cond (Nat.ble 9 pc) (cond (Nat.beq pc 9) (some (.putfield 42, 12, 1, 9, 315, 0)) none) (cond (Nat.beq pc 8) (some (.iconst 0, 9, 0, 0, 0, 0)) none)) (cond (Nat.ble 7 pc) (cond (Nat.beq pc 7) (some (.aload_n 0, 8, 0, 0, 0, 0)) none) (cond (Nat.beq pc 4) (some (.putfield 39, 7, 1, 8, 314, 0)) none))) (cond (Nat.ble 2 pc) (cond (Nat.ble 3 pc) (cond (Nat.beq pc 3) (some (.iconst 0, 4, 0, 0, 0, 0)) none) (cond (Nat.beq pc 2) (some (.aload_n 0, 3, 0, 0, 0, 0)) none)) (cond (Nat.ble 1 pc) (cond (Nat.beq pc 1) (some (.istore_n 1, 2, 0, 0, 0, 0)) none) (cond (Nat.beq pc 0) (some (.iconst 0, 1, 0, 0, 0, 0)) none)))))))
def rc_99 (pc : Nat) : Option RI := cond (Nat.ble 46 pc) none (cond (Nat.ble 21 pc) (cond (Nat.ble 32 pc) (cond (Nat.ble 38 pc) (cond (Nat.ble 44 pc) (cond (Nat.ble 45 pc) (cond (Nat.beq pc 45) (some (.ireturn, 46, 0, 0, 0, 0)) none) (cond (Nat.beq pc 44) (some (.iconst (-1), 45, 0, 0, 0, 0)) none)) (cond (Nat.ble 41 pc) (cond (Nat.beq pc 41) (some (.goto (-39), 44, 2, 0, 0, 0)) none) (cond (Nat.beq pc 38) (some (.iinc 3 1, 41, 0, 0, 0, 0)) none))) (cond (Nat.ble 36 pc) (cond (Nat.ble 37 pc) (cond (Nat.beq pc 37) (some (.ireturn, 38, 0, 0, 0, 0)) none) (cond (Nat.beq pc 36) (some (.iload_n 3, 37, 0, 0, 0, 0)) none)) (cond (Nat.ble 33 pc) (cond (Nat.beq pc 33) (some (.if_icmp .ne 5, 36, 38, 0, 0, 0)) none) (cond (Nat.beq pc 32) (some (.iaload, 33, 0, 0, 0, 0)) none)))) (cond (Nat.ble 26 pc) (cond (Nat.ble 30 pc) (cond (Nat.ble 31 pc) (cond (Nat.beq pc 31) (some (.iload_n 2, 32, 0, 0, 0, 0)) none) (cond (Nat.beq pc 30) (some (.aaload, 31, 0, 0, 0, 0)) none)) (cond (Nat.ble 29 pc) (cond (Nat.beq pc 29) (some (.iload_n 1, 30, 0, 0, 0, 0)) none) (cond (Nat.beq pc 26) (some (.getfield 23, 29, 1, 3, 309, 0)) none))) (cond (Nat.ble 22 pc) (cond (Nat.ble 25 pc) (cond (Nat.beq pc 25) (some (.aload_n 0, 26, 0, 0, 0, 0)) none) (cond (Nat.beq pc 22) (some (.invokevirtual 85, 25, 97, 0, 777, 0)) none)) (cond (Nat.beq pc 21) (some (.iload_n 2, 22, 0, 0, 0, 0)) none)))) (cond (Nat.ble 11 pc) (cond (Nat.ble 15 pc) (cond (Nat.ble 19 pc) (cond (Nat.ble 20 pc) (cond (Nat.beq pc 20) (some (.iload_n 3, 21, 0, 0, 0, 0)) none) (cond (Nat.beq pc 19) (some (.iload_n 1, 20, 0, 0, 0, 0)) none)) (cond (Nat.ble 18 pc) (cond (Nat.beq pc 18) (some (.aload_n 0, 19, 0, 0, 0, 0)) none) (cond (Nat.beq pc 15) (some (.ifCond .ne 23, 18, 38, 0, 0, 0)) none))) (cond (Nat.ble 13 pc) (cond (Nat.ble 14 pc) (cond (Nat.beq pc 14) (some (.iand, 15, 0, 0, 0, 0)) none) (cond (Nat.beq pc 13) (some (.ishl, 14, 0, 0, 0, 0)) none)) (cond (Nat.ble 12 pc) (cond (Nat.beq pc 12) (some (.iload_n 3, 13, 0, 0, 0, 0)) none) (cond (Nat.beq pc 11) (some (.iconst 1, 12, 0, 0, 0, 0)) none)))) (cond (Nat.ble 3 pc) (cond (Nat.ble 7 pc) (cond (Nat.ble 10 pc) (cond (Nat.beq pc 10) (some (.iload_n 2, 11, 0, 0, 0, 0)) none) (cond (Nat.beq pc 7) (some (.if_icmp .ge 37, 10, 44, 0, 0, 0)) none)) (cond (Nat.ble 4 pc) (cond (Nat.beq pc 4) (some (.getfield 36, 7, 1, 7, 313, 0)) none) (cond (Nat.beq pc 3) (some (.aload_n 0, 4, 0, 0, 0, 0)) none))) (cond (Nat.ble 1 pc) (cond (Nat.ble 2 pc) (cond (Nat.beq pc 2) (some (.iload_n 3, 3, 0, 0, 0, 0)) none) (cond (Nat.beq pc 1) (some (.istore_n 3, 2, 0, 0, 0, 0)) none)) (cond (Nat.beq pc 0) (some (.iconst 0, 1, 0, 0, 0, 0)) none)))))
def rc_100 (pc : Nat) : Option RI := cond (Nat.ble 8 pc) none (cond (Nat.ble 4 pc) (cond (Nat.ble 7 pc) (cond (Nat.beq pc 7) (some (.ireturn, 8, 0, 0, 0, 0)) none) (cond (Nat.beq pc 4) (some (.getfield 184, 7, 1, 9, 316, 0)) none)) (cond (Nat.ble 1 pc) (cond (Nat.beq pc 1) (some (.getfield 56, 4, 9, 6, 363, 0)) none) (cond (Nat.beq pc 0) (some (.aload_n 0, 1, 0, 0, 0, 0)) none)))
def rc_101 (pc : Nat) : Option RI := cond (Nat.ble 10 pc) none (cond (Nat.ble 5 pc) (cond (Nat.ble 6 pc) (cond (Nat.ble 9 pc) (cond (Nat.beq pc 9) (some (.ireturn, 10, 0, 0, 0, 0)) none) (cond (Nat.beq pc 6) (some (.invokevirtual 187, 9, 102, 1, 798, 0)) none)) (cond (Nat.beq pc 5) (some (.iload_n 2, 6, 0, 0, 0, 0)) none)) (cond (Nat.ble 1 pc) (cond (Nat.ble 4 pc) (cond (Nat.beq pc 4) (some (.iload_n 1, 5, 0, 0, 0, 0)) none) (cond (Nat.beq pc 1) (some (.getfield 56, 4, 9, 6, 363, 0)) none)) (cond (Nat.beq pc 0) (some (.aload_n 0, 1, 0, 0, 0, 0)) none)))
def rc_102 (pc : Nat) : Option RI := cond (Nat.ble 34 pc) none (cond (Nat.ble 18 pc) (cond (Nat.ble 27 pc) (cond (Nat.ble 31 pc) (cond (Nat.ble 32 pc) (cond (Nat.ble 33 pc) (cond (Nat.beq pc 33) (some (.ireturn, 34, 0, 0, 0, 0)) none) (cond (Nat.beq pc 32) (some (.iaload, 33, 0, 0, 0, 0)) none)) (cond (Nat.beq pc 31) (some (.iload_n 1, 32, 0, 0, 0, 0)) none)) (cond (Nat.ble 28 pc) (cond (Nat.beq pc 28) (some (.getfield 26, 31, 1, 4, 310, 0)) none) (cond (Nat.beq pc 27) (some (.aload_n 0, 28, 0, 0, 0, 0)) none))) (cond (Nat.ble 22 pc) (cond (Nat.ble 23 pc) (cond (Nat.ble 24 pc) (cond (Nat.beq pc 24) (some (.goto 9, 27, 33, 0, 0, 0)) none) (cond (Nat.beq pc 23) (some (.iaload, 24, 0, 0, 0, 0)) none)) (cond (Nat.beq pc 22) (some (.iload_n 1, 23, 0, 0, 0, 0)) none)) (cond (Nat.ble 19 pc) (cond (Nat.beq pc 19) (some (.getfield 29, 22, 1, 5, 311, 0)) none) (cond (Nat.beq pc 18) (some (.aload_n 0, 19, 0, 0, 0, 0)) none)))) (cond (Nat.ble 9 pc) (cond (Nat.ble 13 pc) (cond (Nat.ble 14 pc) (cond (Nat.ble 15 pc) (cond (Nat.beq pc 15) (some (.ifCond .eq 12, 18, 27, 0, 0, 0)) none) (cond (Nat.beq pc 14) (some (.iload_n 2, 15, 0, 0, 0, 0)) none)) (cond (Nat.beq pc 13) (some (.ireturn, 14, 0, 0, 0, 0)) none)) (cond (Nat.ble 12 pc) (cond (Nat.beq pc 12) (some (.iconst (-1), 13, 0, 0, 0, 0)) none) (cond (Nat.beq pc 9) (some (.if_icmp .lt 5, 12, 14, 0, 0, 0)) none))) (cond (Nat.ble 4 pc) (cond (Nat.ble 5 pc) (cond (Nat.ble 6 pc) (cond (Nat.beq pc 6) (some (.getfield 39, 9, 1, 8, 314, 0)) none) (cond (Nat.beq pc 5) (some (.aload_n 0, 6, 0, 0, 0, 0)) none)) (cond (Nat.beq pc 4) (some (.iload_n 1, 5, 0, 0, 0, 0)) none)) (cond (Nat.ble 1 pc) (cond (Nat.beq pc 1) (some (.ifCond .lt 11, 4, 12, 0, 0, 0)) none) (cond (Nat.beq pc 0) (some (.iload_n 1, 1, 0, 0, 0, 0)) none)))))
def rc_103 (pc : Nat) : Option RI := cond (Nat.ble 30 pc) none (cond (Nat.ble 18 pc) (cond (Nat.ble 22 pc) (cond (Nat.ble 28 pc) (cond (Nat.ble 29 pc) (cond (Nat.beq pc 29) (some (.ireturn, 30, 0, 0, 0, 0)) none) (cond (Nat.beq pc 28) (some (.iconst (-1), 29, 0, 0, 0, 0)) none)) (cond (Nat.ble 25 pc) (cond (Nat.beq pc 25) (some (.goto 4, 28, 29, 0, 0, 0)) none) (cond (Nat.beq pc 22) (some (.invokevirtual 194, 25, 105, 0, 809, 0)) none))) (cond (Nat.ble 20 pc) (cond (Nat.ble 21 pc) (cond (Nat.beq pc 21) (some (.iload_n 3, 22, 0, 0, 0, 0)) none) (cond (Nat.beq pc 20) (some (.iload_n 2, 21, 0, 0, 0, 0)) none)) (cond (Nat.ble 19 pc) (cond (Nat.beq pc 19) (some (.iload_n 1, 20, 0, 0, 0, 0)) none) (cond (Nat.beq pc 18) (some (.aload_n 0, 19, 0, 0, 0, 0)) none)))) (cond (Nat.ble 8 pc) (cond (Nat.ble 12 pc) (cond (Nat.ble 15 pc) (cond (Nat.beq pc 15) (some (.ifCond .eq 13, 18, 28, 0, 0, 0)) none) (cond (Nat.beq pc 12) (some (.invokestatic 191, 15, 104, 0, 806, 0)) none)) (cond (Nat.ble 11 pc) (cond (Nat.beq pc 11) (some (.iload_n 2, 12, 0, 0, 0, 0)) none) (cond (Nat.beq pc 8) (some (.ifCond .eq 20, 11, 28, 0, 0, 0)) none))) (cond (Nat.ble 4 pc) (cond (Nat.ble 5 pc) (cond (Nat.beq pc 5) (some (.invokevirtual 120, 8, 33, 1, 476, 0)) none) (cond (Nat.beq pc 4) (some (.iload_n 1, 5, 0, 0, 0, 0)) none)) (cond (Nat.ble 1 pc) (cond (Nat.beq pc 1) (some (.getfield 26, 4, 9, 2, 359, 0)) none) (cond (Nat.beq pc 0) (some (.aload_n 0, 1, 0, 0, 0, 0)) none)))))
def rc_104 (pc : Nat) : Option RI := cond (Nat.ble 15 pc) none (cond (Nat.ble 6 pc) (cond (Nat.ble 10 pc) (cond (Nat.ble 13 pc) (cond (Nat.ble 14 pc) (cond (Nat.beq pc 14) (some (.ireturn, 15, 0, 0, 0, 0)) none) (cond (Nat.beq pc 13) (some (.iconst 0, 14, 0, 0, 0, 0)) none)) (cond (Nat.beq pc 10) (some (.goto 4, 13, 14, 0, 0, 0)) none)) (cond (Nat.ble 9 pc) (cond (Nat.beq pc 9) (some (.iconst 1, 10, 0, 0, 0, 0)) none) (cond (Nat.beq pc 6) (some (.if_icmp .ge 7, 9, 13, 0, 0, 0)) none))) (cond (Nat.ble 4 pc) (cond (Nat.ble 5 pc) (cond (Nat.beq pc 5) (some (.iconst 5, 6, 0, 0, 0, 0)) none) (cond (Nat.beq pc 4) (some (.iload_n 0, 5, 0, 0, 0, 0)) none)) (cond (Nat.ble 1 pc) (cond (Nat.beq pc 1) (some (.ifCond .lt 12, 4, 13, 0, 0, 0)) none) (cond (Nat.beq pc 0) (some (.iload_n 0, 1, 0, 0, 0, 0)) none))))
def rc_105 (pc : Nat) : Option RI := cond (Nat.ble 90 pc) none (cond (Nat.ble 45 pc) (cond (Nat.ble 68 pc) (cond (Nat.ble 78 pc) (cond (Nat.ble 84 pc) (cond (Nat.ble 87 pc) (cond (Nat.ble 89 pc) (cond (Nat.beq pc 89) (some (.ireturn, 90, 0, 0, 0, 0)) none) (cond (Nat.beq pc 87) (some (.iload 4, 89, 0, 0, 0, 0)) none)) (cond (Nat.beq pc 84) (some (.goto (-78), 87, 6, 0, 0, 0)) none)) (cond (Nat.ble 79 pc) (cond (Nat.ble 81 pc) (cond (Nat.beq pc 81) (some (.iinc 5 1, 84, 0, 0, 0, 0)) none) (cond (Nat.beq pc 79) (some (.istore 4, 81, 0, 0, 0, 0)) none)) (cond (Nat.beq pc 78) (some (.iadd, 79, 0, 0, 0, 0)) none))) (cond (Nat.ble 72 pc) (cond (Nat.ble 74 pc) (cond (Nat.ble 75 pc) (cond (Nat.beq pc 75) (some (.invokevirtual 147, 78, 63, 1, 630, 0)) none) (cond (Nat.beq pc 74) (some (.iload_n 2, 75, 0, 0, 0, 0)) none)) (cond (Nat.beq pc 72) (some (.iload 5, 74, 0, 0, 0, 0)) none)) (cond (Nat.ble 69 pc) (cond (Nat.beq pc 69) (some (.getfield 33, 72, 9, 3, 360, 0)) none) (cond (Nat.beq pc 68) (some (.aload_n 0, 69, 0, 0, 0, 0)) none)))) (cond (Nat.ble 54 pc) (cond (Nat.ble 60 pc) (cond (Nat.ble 63 pc) (cond (Nat.ble 66 pc) (cond (Nat.beq pc 66) (some (.iload 4, 68, 0, 0, 0, 0)) none) (cond (Nat.beq pc 63) (some (.ifCond .eq 18, 66, 81, 0, 0, 0)) none)) (cond (Nat.beq pc 60) (some (.invokevirtual 127, 63, 37, 1, 494, 0)) none)) (cond (Nat.ble 57 pc) (cond (Nat.ble 59 pc) (cond (Nat.beq pc 59) (some (.iload_n 1, 60, 0, 0, 0, 0)) none) (cond (Nat.beq pc 57) (some (.iload 6, 59, 0, 0, 0, 0)) none)) (cond (Nat.beq pc 54) (some (.getfield 26, 57, 9, 2, 359, 0)) none))) (cond (Nat.ble 49 pc) (cond (Nat.ble 50 pc) (cond (Nat.ble 53 pc) (cond (Nat.beq pc 53) (some (.aload_n 0, 54, 0, 0, 0, 0)) none) (cond (Nat.beq pc 50) (some (.ifCond .eq 31, 53, 81, 0, 0, 0)) none)) (cond (Nat.beq pc 49) (some (.iload_n 3, 50, 0, 0, 0, 0)) none)) (cond (Nat.ble 46 pc) (cond (Nat.beq pc 46) (some (.if_icmp .eq 20, 49, 66, 0, 0, 0)) none) (cond (Nat.beq pc 45) (some (.iload_n 1, 46, 0, 0, 0, 0)) none))))) (cond (Nat.ble 19 pc) (cond (Nat.ble 31 pc) (cond (Nat.ble 38 pc) (cond (Nat.ble 41 pc) (cond (Nat.ble 43 pc) (cond (Nat.beq pc 43) (some (.iload 6, 45, 0, 0, 0, 0)) none) (cond (Nat.beq pc 41) (some (.istore 6, 43, 0, 0, 0, 0)) none)) (cond (Nat.beq pc 38) (some (.invokevirtual 147, 41, 63, 1, 630, 0)) none)) (cond (Nat.ble 34 pc) (cond (Nat.ble 36 pc) (cond (Nat.beq pc 36) (some (.bipush 6, 38, 0, 0, 0, 0)) none) (cond (Nat.beq pc 34) (some (.iload 5, 36, 0, 0, 0, 0)) none)) (cond (Nat.beq pc 31) (some (.getfield 33, 34, 9, 3, 360, 0)) none))) (cond (Nat.ble 24 pc) (cond (Nat.ble 27 pc) (cond (Nat.ble 30 pc) (cond (Nat.beq pc 30) (some (.aload_n 0, 31, 0, 0, 0, 0)) none) (cond (Nat.beq pc 27) (some (.ifCond .eq 54, 30, 81, 0, 0, 0)) none)) (cond (Nat.beq pc 24) (some (.invokevirtual 217, 27, 70, 1, 813, 0)) none)) (cond (Nat.ble 22 pc) (cond (Nat.beq pc 22) (some (.iload 5, 24, 0, 0, 0, 0)) none) (cond (Nat.beq pc 19) (some (.getfield 33, 22, 9, 3, 360, 0)) none)))) (cond (Nat.ble 8 pc) (cond (Nat.ble 12 pc) (cond (Nat.ble 15 pc) (cond (Nat.ble 18 pc) (cond (Nat.beq pc 18) (some (.aload_n 0, 19, 0, 0, 0, 0)) none) (cond (Nat.beq pc 15) (some (.if_icmp .ge 72, 18, 87, 0, 0, 0)) none)) (cond (Nat.beq pc 12) (some (.getfield 201, 15, 6, 2, 220, 0)) none)) (cond (Nat.ble 9 pc) (cond (Nat.beq pc 9) (some (.getfield 33, 12, 9, 3, 360, 0)) none) (cond (Nat.beq pc 8) (some (.aload_n 0, 9, 0, 0, 0, 0)) none))) (cond (Nat.ble 3 pc) (cond (Nat.ble 4 pc) (cond (Nat.ble 6 pc) (cond (Nat.beq pc 6) (some (.iload 5, 8, 0, 0, 0, 0)) none) (cond (Nat.beq pc 4) (some (.istore 5, 6, 0, 0, 0, 0)) none)) (cond (Nat.beq pc 3) (some (.iconst 0, 4, 0, 0, 0, 0)) none)) (cond (Nat.ble 1 pc) (cond (Nat.beq pc 1) (some (.istore 4, 3, 0, 0, 0, 0)) none) (cond (Nat.beq pc 0) (some (.iconst 0, 1, 0, 0, 0, 0)) none))))))
def rc_106 (pc : Nat) : Option RI := cond (Nat.ble 54 pc) none (cond (Nat.ble 22 pc) (cond (Nat.ble 37 pc) (cond (Nat.ble 46 pc) (cond (Nat.ble 52 pc) (cond (Nat.ble 53 pc) (cond (Nat.beq pc 53) (some (.ireturn, 54, 0, 0, 0, 0)) none) (cond (Nat.beq pc 52) (some (.iload_n 2, 53, 0, 0, 0, 0)) none)) (cond (Nat.ble 49 pc) (cond (Nat.beq pc 49) (some (.goto (-32), 52, 17, 0, 0, 0)) none) (cond (Nat.beq pc 46) (some (.iinc 3 1, 49, 0, 0, 0, 0)) none))) (cond (Nat.ble 40 pc) (cond (Nat.ble 43 pc) (cond (Nat.beq pc 43) (some (.iinc 2 1, 46, 0, 0, 0, 0)) none) (cond (Nat.beq pc 40) (some (.ifCond .eq 6, 43, 46, 0, 0, 0)) none)) (cond (Nat.beq pc 37) (some (.invokevirtual 127, 40, 37, 1, 494, 0)) none))) (cond (Nat.ble 31 pc) (cond (Nat.ble 35 pc) (cond (Nat.ble 36 pc) (cond (Nat.beq pc 36) (some (.iload_n 1, 37, 0, 0, 0, 0)) none) (cond (Nat.beq pc 35) (some (.iload_n 3, 36, 0, 0, 0, 0)) none)) (cond (Nat.ble 32 pc) (cond (Nat.beq pc 32) (some (.getfield 26, 35, 9, 2, 359, 0)) none) (cond (Nat.beq pc 31) (some (.aload_n 0, 32, 0, 0, 0, 0)) none))) (cond (Nat.ble 25 pc) (cond (Nat.ble 28 pc) (cond (Nat.beq pc 28) (some (.if_icmp .ge 24, 31, 52, 0, 0, 0)) none) (cond (Nat.beq pc 25) (some (.getfield 165, 28, 3, 3, 167, 0)) none)) (cond (Nat.beq pc 22) (some (.getfield 123, 25, 2, 0, 200, 0)) none)))) (cond (Nat.ble 13 pc) (cond (Nat.ble 16 pc) (cond (Nat.ble 18 pc) (cond (Nat.ble 19 pc) (cond (Nat.beq pc 19) (some (.getfield 26, 22, 9, 2, 359, 0)) none) (cond (Nat.beq pc 18) (some (.aload_n 0, 19, 0, 0, 0, 0)) none)) (cond (Nat.ble 17 pc) (cond (Nat.beq pc 17) (some (.iload_n 3, 18, 0, 0, 0, 0)) none) (cond (Nat.beq pc 16) (some (.istore_n 3, 17, 0, 0, 0, 0)) none))) (cond (Nat.ble 14 pc) (cond (Nat.ble 15 pc) (cond (Nat.beq pc 15) (some (.iconst 0, 16, 0, 0, 0, 0)) none) (cond (Nat.beq pc 14) (some (.istore_n 2, 15, 0, 0, 0, 0)) none)) (cond (Nat.beq pc 13) (some (.iconst 0, 14, 0, 0, 0, 0)) none))) (cond (Nat.ble 5 pc) (cond (Nat.ble 11 pc) (cond (Nat.ble 12 pc) (cond (Nat.beq pc 12) (some (.ireturn, 13, 0, 0, 0, 0)) none) (cond (Nat.beq pc 11) (some (.iconst (-1), 12, 0, 0, 0, 0)) none)) (cond (Nat.ble 8 pc) (cond (Nat.beq pc 8) (some (.ifCond .ne 5, 11, 13, 0, 0, 0)) none) (cond (Nat.beq pc 5) (some (.invokevirtual 120, 8, 33, 1, 476, 0)) none))) (cond (Nat.ble 1 pc) (cond (Nat.ble 4 pc) (cond (Nat.beq pc 4) (some (.iload_n 1, 5, 0, 0, 0, 0)) none) (cond (Nat.beq pc 1) (some (.getfield 26, 4, 9, 2, 359, 0)) none)) (cond (Nat.beq pc 0) (some (.aload_n 0, 1, 0, 0, 0, 0)) none)))))
def rc_107 (pc : Nat) : Option RI := cond (Nat.ble 24 pc) none (cond (Nat.ble 12 pc) (cond (Nat.ble 19 pc) (cond (Nat.ble 22 pc) (cond (Nat.ble 23 pc) (cond (Nat.beq pc 23) (some (.ireturn, 24, 0, 0, 0, 0)) none) (cond (Nat.beq pc 22) (some (.iconst (-1), 23, 0, 0, 0, 0)) none)) (cond (Nat.beq pc 19) (some (.goto 4, 22, 23, 0, 0, 0)) none)) (cond (Nat.ble 15 pc) (cond (Nat.ble 16 pc) (cond (Nat.beq pc 16) (some (.invokevirtual 198, 19, 108, 1, 822, 0)) none) (cond (Nat.beq pc 15) (some (.iload_n 1, 16, 0, 0, 0, 0)) none)) (cond (Nat.beq pc 12) (some (.getfield 26, 15, 9, 2, 359, 0)) none))) (cond (Nat.ble 5 pc) (cond (Nat.ble 8 pc) (cond (Nat.ble 11 pc) (cond (Nat.beq pc 11) (some (.aload_n 0, 12, 0, 0, 0, 0)) none) (cond (Nat.beq pc 8) (some (.ifCond .eq 14, 11, 22, 0, 0, 0)) none)) (cond (Nat.beq pc 5) (some (.invokevirtual 120, 8, 33, 1, 476, 0)) none)) (cond (Nat.ble 1 pc) (cond (Nat.ble 4 pc) (cond (Nat.beq pc 4) (some (.iload_n 1, 5, 0, 0, 0, 0)) none) (cond (Nat.beq pc 1) (some (.getfield 26, 4, 9, 2, 359, 0)) none)) (cond (Nat.beq pc 0) (some (.aload_n 0, 1, 0, 0, 0, 0)) none))))
def rc_108 (pc : Nat) : Option RI := cond (Nat.ble 33 pc) none (cond (Nat.ble 15 pc) (cond (Nat.ble 24 pc) (cond (Nat.ble 28 pc) (cond (Nat.ble 31 pc) (cond (Nat.ble 32 pc) (cond (Nat.beq pc 32) (some (.ireturn, 33, 0, 0, 0, 0)) none) (cond (Nat.beq pc 31) (some (.iload_n 2, 32, 0, 0, 0, 0)) none)) (cond (Nat.beq pc 28) (some (.goto (-24), 31, 4, 0, 0, 0)) none)) (cond (Nat.ble 25 pc) (cond (Nat.beq pc 25) (some (.iinc 3 1, 28, 0, 0, 0, 0)) none) (cond (Nat.beq pc 24) (some (.istore_n 2, 25, 0, 0, 0, 0)) none))) (cond (Nat.ble 19 pc) (cond (Nat.ble 20 pc) (cond (Nat.ble 21 pc) (cond (Nat.beq pc 21) (some (.invokevirtual 40, 24, 38, 0, 498, 0)) none) (cond (Nat.beq pc 20) (some (.iload_n 2, 21, 0, 0, 0, 0)) none)) (cond (Nat.beq pc 19) (some (.aload_n 0, 20, 0, 0, 0, 0)) none)) (cond (Nat.ble 16 pc) (cond (Nat.beq pc 16) (some (.if_icmp .eq 15, 19, 31, 0, 0, 0)) none) (cond (Nat.beq pc 15) (some (.iconst (-1), 16, 0, 0, 0, 0)) none)))) (cond (Nat.ble 5 pc) (cond (Nat.ble 10 pc) (cond (Nat.ble 11 pc) (cond (Nat.ble 12 pc) (cond (Nat.beq pc 12) (some (.invokevirtual 40, 15, 38, 0, 498, 0)) none) (cond (Nat.beq pc 11) (some (.iload_n 2, 12, 0, 0, 0, 0)) none)) (cond (Nat.beq pc 10) (some (.aload_n 0, 11, 0, 0, 0, 0)) none)) (cond (Nat.ble 7 pc) (cond (Nat.beq pc 7) (some (.if_icmp .ge 24, 10, 31, 0, 0, 0)) none) (cond (Nat.beq pc 5) (some (.bipush 16, 7, 0, 0, 0, 0)) none))) (cond (Nat.ble 2 pc) (cond (Nat.ble 3 pc) (cond (Nat.ble 4 pc) (cond (Nat.beq pc 4) (some (.iload_n 3, 5, 0, 0, 0, 0)) none) (cond (Nat.beq pc 3) (some (.istore_n 3, 4, 0, 0, 0, 0)) none)) (cond (Nat.beq pc 2) (some (.iconst 0, 3, 0, 0, 0, 0)) none)) (cond (Nat.ble 1 pc) (cond (Nat.beq pc 1) (some (.istore_n 2, 2, 0, 0, 0, 0)) none) (cond (Nat.beq pc 0) (some (.iload_n 1, 1, 0, 0, 0, 0)) none)))))
def rc_109 (pc : Nat) : Option RI := cond (Nat.ble 62 pc) none (cond (Nat.ble 32 pc) (cond (Nat.ble 45 pc) (cond (Nat.ble 53 pc) (cond (Nat.ble 57 pc) (cond (Nat.ble 60 pc) (cond (Nat.ble 61 pc) (cond (Nat.beq pc 61) (some (.ireturn, 62, 0, 0, 0, 0)) none) (cond (Nat.beq pc 60) (some (.iload_n 2, 61, 0, 0, 0, 0)) none)) (cond (Nat.beq pc 57) (some (.goto (-40), 60, 17, 0, 0, 0)) none)) (cond (Nat.ble 54 pc) (cond (Nat.beq pc 54) (some (.iinc 4 1, 57, 0, 0, 0, 0)) none) (cond (Nat.beq pc 53) (some (.istore_n 2, 54, 0, 0, 0, 0)) none))) (cond (Nat.ble 50 pc) (cond (Nat.ble 51 pc) (cond (Nat.beq pc 51) (some (.iload 4, 53, 0, 0, 0, 0)) none) (cond (Nat.beq pc 50) (some (.istore_n 3, 51, 0, 0, 0, 0)) none)) (cond (Nat.ble 48 pc) (cond (Nat.beq pc 48) (some (.iload 5, 50, 0, 0, 0, 0)) none) (cond (Nat.beq pc 45) (some (.if_icmp .le 9, 48, 54, 0, 0, 0)) none)))) (cond (Nat.ble 37 pc) (cond (Nat.ble 42 pc) (cond (Nat.ble 44 pc) (cond (Nat.beq pc 44) (some (.iload_n 3, 45, 0, 0, 0, 0)) none) (cond (Nat.beq pc 42) (some (.iload 5, 44, 0, 0, 0, 0)) none)) (cond (Nat.ble 40 pc) (cond (Nat.beq pc 40) (some (.istore 5, 42, 0, 0, 0, 0)) none) (cond (Nat.beq pc 37) (some (.invokevirtual 194, 40, 105, 0, 809, 0)) none))) (cond (Nat.ble 35 pc) (cond (Nat.ble 36 pc) (cond (Nat.beq pc 36) (some (.iconst 1, 37, 0, 0, 0, 0)) none) (cond (Nat.beq pc 35) (some (.iload_n 1, 36, 0, 0, 0, 0)) none)) (cond (Nat.ble 33 pc) (cond (Nat.beq pc 33) (some (.iload 4, 35, 0, 0, 0, 0)) none) (cond (Nat.beq pc 32) (some (.aload_n 0, 33, 0, 0, 0, 0)) none))))) (cond (Nat.ble 13 pc) (cond (Nat.ble 19 pc) (cond (Nat.ble 23 pc) (cond (Nat.ble 26 pc) (cond (Nat.ble 29 pc) (cond (Nat.beq pc 29) (some (.if_icmp .ge 31, 32, 60, 0, 0, 0)) none) (cond (Nat.beq pc 26) (some (.getfield 165, 29, 3, 3, 167, 0)) none)) (cond (Nat.beq pc 23) (some (.getfield 123, 26, 2, 0, 200, 0)) none)) (cond (Nat.ble 20 pc) (cond (Nat.beq pc 20) (some (.getfield 26, 23, 9, 2, 359, 0)) none) (cond (Nat.beq pc 19) (some (.aload_n 0, 20, 0, 0, 0, 0)) none))) (cond (Nat.ble 15 pc) (cond (Nat.ble 17 pc) (cond (Nat.beq pc 17) (some (.iload 4, 19, 0, 0, 0, 0)) none) (cond (Nat.beq pc 15) (some (.istore 4, 17, 0, 0, 0, 0)) none)) (cond (Nat.ble 14 pc) (cond (Nat.beq pc 14) (some (.iconst 0, 15, 0, 0, 0, 0)) none) (cond (Nat.beq pc 13) (some (.istore_n 3, 14, 0, 0, 0, 0)) none)))) (cond (Nat.ble 8 pc) (cond (Nat.ble 11 pc) (cond (Nat.ble 12 pc) (cond (Nat.beq pc 12) (some (.iconst (-1), 13, 0, 0, 0, 0)) none) (cond (Nat.beq pc 11) (some (.istore_n 2, 12, 0, 0, 0, 0)) none)) (cond (Nat.ble 9 pc) (cond (Nat.beq pc 9) (some (.bipush (-2), 11, 0, 0, 0, 0)) none) (cond (Nat.beq pc 8) (some (.ireturn, 9, 0, 0, 0, 0)) none))) (cond (Nat.ble 4 pc) (cond (Nat.ble 7 pc) (cond (Nat.beq pc 7) (some (.iconst (-1), 8, 0, 0, 0, 0)) none) (cond (Nat.beq pc 4) (some (.ifCond .ne 5, 7, 9, 0, 0, 0)) none)) (cond (Nat.ble 1 pc) (cond (Nat.beq pc 1) (some (.invokestatic 191, 4, 104, 0, 806, 0)) none) (cond (Nat.beq pc 0) (some (.iload_n 1, 1, 0, 0, 0, 0)) none))))))
def rc_110 (pc : Nat) : Option RI := cond (Nat.ble 68 pc) none (cond (Nat.ble 34 pc) (cond (Nat.ble 52 pc) (cond (Nat.ble 59 pc) (cond (Nat.ble 63 pc) (cond (Nat.ble 66 pc) (cond (Nat.ble 67 pc) (cond (Nat.beq pc 67) (some (.ireturn, 68, 0, 0, 0, 0)) none) (cond (Nat.beq pc 66) (some (.iload_n 3, 67, 0, 0, 0, 0)) none)) (cond (Nat.beq pc 63) (some (.goto (-41), 66, 22, 0, 0, 0)) none)) (cond (Nat.ble 60 pc) (cond (Nat.beq pc 60) (some (.iinc 4 1, 63, 0, 0, 0, 0)) none) (cond (Nat.beq pc 59) (some (.istore_n 3, 60, 0, 0, 0, 0)) none))) (cond (Nat.ble 55 pc) (cond (Nat.ble 58 pc) (cond (Nat.beq pc 58) (some (.iadd, 59, 0, 0, 0, 0)) none) (cond (Nat.beq pc 55) (some (.invokevirtual 147, 58, 63, 1, 630, 0)) none)) (cond (Nat.ble 54 pc) (cond (Nat.beq pc 54) (some (.iload_n 2, 55, 0, 0, 0, 0)) none) (cond (Nat.beq pc 52) (some (.iload 4, 54, 0, 0, 0, 0)) none)))) (cond (Nat.ble 43 pc) (cond (Nat.ble 47 pc) (cond (Nat.ble 48 pc) (cond (Nat.ble 49 pc) (cond (Nat.beq pc 49) (some (.getfield 33, 52, 9, 3, 360, 0)) none) (cond (Nat.beq pc 48) (some (.aload_n 0, 49, 0, 0, 0, 0)) none)) (cond (Nat.beq pc 47) (some (.iload_n 3, 48, 0, 0, 0, 0)) none)) (cond (Nat.ble 44 pc) (cond (Nat.beq pc 44) (some (.if_icmp .ne 16, 47, 60, 0, 0, 0)) none) (cond (Nat.beq pc 43) (some (.iload_n 1, 44, 0, 0, 0, 0)) none))) (cond (Nat.ble 38 pc) (cond (Nat.ble 40 pc) (cond (Nat.beq pc 40) (some (.invokevirtual 204, 43, 71, 1, 834, 0)) none) (cond (Nat.beq pc 38) (some (.iload 4, 40, 0, 0, 0, 0)) none)) (cond (Nat.ble 35 pc) (cond (Nat.beq pc 35) (some (.getfield 33, 38, 9, 3, 360, 0)) none) (cond (Nat.beq pc 34) (some (.aload_n 0, 35, 0, 0, 0, 0)) none))))) (cond (Nat.ble 17 pc) (cond (Nat.ble 22 pc) (cond (Nat.ble 25 pc) (cond (Nat.ble 28 pc) (cond (Nat.ble 31 pc) (cond (Nat.beq pc 31) (some (.if_icmp .ge 35, 34, 66, 0, 0, 0)) none) (cond (Nat.beq pc 28) (some (.getfield 201, 31, 6, 2, 220, 0)) none)) (cond (Nat.beq pc 25) (some (.getfield 33, 28, 9, 3, 360, 0)) none)) (cond (Nat.ble 24 pc) (cond (Nat.beq pc 24) (some (.aload_n 0, 25, 0, 0, 0, 0)) none) (cond (Nat.beq pc 22) (some (.iload 4, 24, 0, 0, 0, 0)) none))) (cond (Nat.ble 19 pc) (cond (Nat.ble 20 pc) (cond (Nat.beq pc 20) (some (.istore 4, 22, 0, 0, 0, 0)) none) (cond (Nat.beq pc 19) (some (.iconst 0, 20, 0, 0, 0, 0)) none)) (cond (Nat.ble 18 pc) (cond (Nat.beq pc 18) (some (.istore_n 3, 19, 0, 0, 0, 0)) none) (cond (Nat.beq pc 17) (some (.iconst 0, 18, 0, 0, 0, 0)) none)))) (cond (Nat.ble 8 pc) (cond (Nat.ble 12 pc) (cond (Nat.ble 15 pc) (cond (Nat.ble 16 pc) (cond (Nat.beq pc 16) (some (.ireturn, 17, 0, 0, 0, 0)) none) (cond (Nat.beq pc 15) (some (.iconst (-1), 16, 0, 0, 0, 0)) none)) (cond (Nat.beq pc 12) (some (.ifCond .ne 5, 15, 17, 0, 0, 0)) none)) (cond (Nat.ble 9 pc) (cond (Nat.beq pc 9) (some (.invokestatic 191, 12, 104, 0, 806, 0)) none) (cond (Nat.beq pc 8) (some (.iload_n 2, 9, 0, 0, 0, 0)) none))) (cond (Nat.ble 2 pc) (cond (Nat.ble 5 pc) (cond (Nat.beq pc 5) (some (.ifCond .eq 10, 8, 15, 0, 0, 0)) none) (cond (Nat.beq pc 2) (some (.invokevirtual 92, 5, 18, 0, 417, 0)) none)) (cond (Nat.ble 1 pc) (cond (Nat.beq pc 1) (some (.iload_n 1, 2, 0, 0, 0, 0)) none) (cond (Nat.beq pc 0) (some (.aload_n 0, 1, 0, 0, 0, 0)) none))))))
def rc_111 (pc : Nat) : Option RI := cond (Nat.ble 81 pc) none (cond (Nat.ble 45 pc) (cond (Nat.ble 61 pc) (cond (Nat.ble 71 pc) (cond (Nat.ble 75 pc) (cond (Nat.ble 78 pc) (cond (Nat.ble 80 pc) (cond (Nat.beq pc 80) (some (.ireturn, 81, 0, 0, 0, 0)) none) (cond (Nat.beq pc 78) (some (.iload 5, 80, 0, 0, 0, 0)) none)) (cond (Nat.beq pc 75) (some (.putfield 71, 78, 9, 9, 366, 0)) none)) (cond (Nat.ble 74 pc) (cond (Nat.beq pc 74) (some (.iconst 2, 75, 0, 0, 0, 0)) none) (cond (Nat.beq pc 71) (some (.goto 4, 74, 75, 0, 0, 0)) none))) (cond (Nat.ble 65 pc) (cond (Nat.ble 67 pc) (cond (Nat.ble 70 pc) (cond (Nat.beq pc 70) (some (.iconst 0, 71, 0, 0, 0, 0)) none) (cond (Nat.beq pc 67) (some (.ifCond .eq 7, 70, 74, 0, 0, 0)) none)) (cond (Nat.beq pc 65) (some (.iload 5, 67, 0, 0, 0, 0)) none)) (cond (Nat.ble 64 pc) (cond (Nat.beq pc 64) (some (.aload_n 0, 65, 0, 0, 0, 0)) none) (cond (Nat.beq pc 61) (some (.invokevirtual 207, 64, 112, 1, 839, 0)) none)))) (cond (Nat.ble 53 pc) (cond (Nat.ble 57 pc) (cond (Nat.ble 58 pc) (cond (Nat.ble 59 pc) (cond (Nat.beq pc 59) (some (.iload 4, 61, 0, 0, 0, 0)) none) (cond (Nat.beq pc 58) (some (.iload_n 3, 59, 0, 0, 0, 0)) none)) (cond (Nat.beq pc 57) (some (.iload_n 2, 58, 0, 0, 0, 0)) none)) (cond (Nat.ble 56 pc) (cond (Nat.beq pc 56) (some (.iload_n 1, 57, 0, 0, 0, 0)) none) (cond (Nat.beq pc 53) (some (.getfield 63, 56, 9, 7, 364, 0)) none))) (cond (Nat.ble 49 pc) (cond (Nat.ble 52 pc) (cond (Nat.beq pc 52) (some (.aload_n 0, 53, 0, 0, 0, 0)) none) (cond (Nat.beq pc 49) (some (.ifCond .eq 15, 52, 64, 0, 0, 0)) none)) (cond (Nat.ble 47 pc) (cond (Nat.beq pc 47) (some (.iload 5, 49, 0, 0, 0, 0)) none) (cond (Nat.beq pc 45) (some (.istore 5, 47, 0, 0, 0, 0)) none))))) (cond (Nat.ble 21 pc) (cond (Nat.ble 34 pc) (cond (Nat.ble 40 pc) (cond (Nat.ble 41 pc) (cond (Nat.ble 44 pc) (cond (Nat.beq pc 44) (some (.iconst 0, 45, 0, 0, 0, 0)) none) (cond (Nat.beq pc 41) (some (.goto 4, 44, 45, 0, 0, 0)) none)) (cond (Nat.beq pc 40) (some (.iconst 1, 41, 0, 0, 0, 0)) none)) (cond (Nat.ble 37 pc) (cond (Nat.beq pc 37) (some (.ifCond .eq 7, 40, 44, 0, 0, 0)) none) (cond (Nat.beq pc 34) (some (.invokestatic 98, 37, 20, 0, 425, 0)) none))) (cond (Nat.ble 27 pc) (cond (Nat.ble 30 pc) (cond (Nat.ble 32 pc) (cond (Nat.beq pc 32) (some (.bipush 100, 34, 0, 0, 0, 0)) none) (cond (Nat.beq pc 30) (some (.iload 4, 32, 0, 0, 0, 0)) none)) (cond (Nat.beq pc 27) (some (.ifCond .eq 17, 30, 44, 0, 0, 0)) none)) (cond (Nat.ble 24 pc) (cond (Nat.beq pc 24) (some (.invokestatic 98, 27, 20, 0, 425, 0)) none) (cond (Nat.beq pc 21) (some (.sipush 1000, 24, 0, 0, 0, 0)) none)))) (cond (Nat.ble 10 pc) (cond (Nat.ble 14 pc) (cond (Nat.ble 17 pc) (cond (Nat.ble 20 pc) (cond (Nat.beq pc 20) (some (.iload_n 3, 21, 0, 0, 0, 0)) none) (cond (Nat.beq pc 17) (some (.ifCond .eq 27, 20, 44, 0, 0, 0)) none)) (cond (Nat.beq pc 14) (some (.invokestatic 98, 17, 20, 0, 425, 0)) none)) (cond (Nat.ble 11 pc) (cond (Nat.beq pc 11) (some (.sipush 1000, 14, 0, 0, 0, 0)) none) (cond (Nat.beq pc 10) (some (.iload_n 2, 11, 0, 0, 0, 0)) none))) (cond (Nat.ble 4 pc) (cond (Nat.ble 7 pc) (cond (Nat.beq pc 7) (some (.ifCond .eq 37, 10, 44, 0, 0, 0)) none) (cond (Nat.beq pc 4) (some (.invokestatic 98, 7, 20, 0, 425, 0)) none)) (cond (Nat.ble 1 pc) (cond (Nat.beq pc 1) (some (.sipush 1000, 4, 0, 0, 0, 0)) none) (cond (Nat.beq pc 0) (some (.iload_n 1, 1, 0, 0, 0, 0)) none))))))
def rc_112 (pc : Nat) : Option RI := cond (Nat.ble 22 pc) none (cond (Nat.ble 10 pc) (cond (Nat.ble 15 pc) (cond (Nat.ble 18 pc) (cond (Nat.ble 21 pc) (cond (Nat.beq pc 21) (some (.return_, 22, 0, 0, 0, 0)) none) (cond (Nat.beq pc 18) (some (.putfield 21, 21, 4, 3, 347, 0)) none)) (cond (Nat.ble 16 pc) (cond (Nat.beq pc 16) (some (.iload 4, 18, 0, 0, 0, 0)) none) (cond (Nat.beq pc 15) (some (.aload_n 0, 16, 0, 0, 0, 0)) none))) (cond (Nat.ble 11 pc) (cond (Nat.ble 12 pc) (cond (Nat.beq pc 12) (some (.putfield 18, 15, 4, 2, 346, 0)) none) (cond (Nat.beq pc 11) (some (.iload_n 3, 12, 0, 0, 0, 0)) none)) (cond (Nat.beq pc 10) (some (.aload_n 0, 11, 0, 0, 0, 0)) none))) (cond (Nat.ble 5 pc) (cond (Nat.ble 6 pc) (cond (Nat.ble 7 pc) (cond (Nat.beq pc 7) (some (.putfield 15, 10, 4, 1, 345, 0)) none) (cond (Nat.beq pc 6) (some (.iload_n 2, 7, 0, 0, 0, 0)) none)) (cond (Nat.beq pc 5) (some (.aload_n 0, 6, 0, 0, 0, 0)) none)) (cond (Nat.ble 1 pc) (cond (Nat.ble 2 pc) (cond (Nat.beq pc 2) (some (.putfield 9, 5, 4, 0, 344, 0)) none) (cond (Nat.beq pc 1) (some (.iload_n 1, 2, 0, 0, 0, 0)) none)) (cond (Nat.beq pc 0) (some (.aload_n 0, 1, 0, 0, 0, 0)) none))))
def rc_113 (pc : Nat) : Option RI := cond (Nat.ble 27 pc) none (cond (Nat.ble 13 pc) (cond (Nat.ble 19 pc) (cond (Nat.ble 25 pc) (cond (Nat.ble 26 pc) (cond (Nat.beq pc 26) (some (.ireturn, 27, 0, 0, 0, 0)) none) (cond (Nat.beq pc 25) (some (.iconst (-1), 26, 0, 0, 0, 0)) none)) (cond (Nat.ble 22 pc) (cond (Nat.beq pc 22) (some (.goto 4, 25, 26, 0, 0, 0)) none) (cond (Nat.beq pc 19) (some (.invokevirtual 211, 22, 114, 0, 847, 0)) none))) (cond (Nat.ble 17 pc) (cond (Nat.ble 18 pc) (cond (Nat.beq pc 18) (some (.iconst 0, 19, 0, 0, 0, 0)) none) (cond (Nat.beq pc 17) (some (.iload_n 1, 18, 0, 0, 0, 0)) none)) (cond (Nat.ble 16 pc) (cond (Nat.beq pc 16) (some (.aload_n 0, 17, 0, 0, 0, 0)) none) (cond (Nat.beq pc 13) (some (.ifCond .eq 12, 16, 25, 0, 0, 0)) none)))) (cond (Nat.ble 5 pc) (cond (Nat.ble 9 pc) (cond (Nat.ble 10 pc) (cond (Nat.beq pc 10) (some (.invokevirtual 120, 13, 33, 1, 476, 0)) none) (cond (Nat.beq pc 9) (some (.iload_n 1, 10, 0, 0, 0, 0)) none)) (cond (Nat.ble 6 pc) (cond (Nat.beq pc 6) (some (.getfield 26, 9, 9, 2, 359, 0)) none) (cond (Nat.beq pc 5) (some (.aload_n 0, 6, 0, 0, 0, 0)) none))) (cond (Nat.ble 1 pc) (cond (Nat.ble 2 pc) (cond (Nat.beq pc 2) (some (.if_icmp .eq 14, 5, 16, 0, 0, 0)) none) (cond (Nat.beq pc 1) (some (.iconst (-1), 2, 0, 0, 0, 0)) none)) (cond (Nat.beq pc 0) (some (.iload_n 1, 1, 0, 0, 0, 0)) none))))
def rc_114 (pc : Nat) : Option RI := cond (Nat.ble 74 pc) none (cond (Nat.ble 38 pc) (cond (Nat.ble 55 pc) (cond (Nat.ble 65 pc) (cond (Nat.ble 69 pc) (cond (Nat.ble 72 pc) (cond (Nat.ble 73 pc) (cond (Nat.beq pc 73) (some (.ireturn, 74, 0, 0, 0, 0)) none) (cond (Nat.beq pc 72) (some (.iload_n 3, 73, 0, 0, 0, 0)) none)) (cond (Nat.beq pc 69) (some (.goto (-64), 72, 5, 0, 0, 0)) none)) (cond (Nat.ble 66 pc) (cond (Nat.beq pc 66) (some (.iinc 4 1, 69, 0, 0, 0, 0)) none) (cond (Nat.beq pc 65) (some (.istore_n 3, 66, 0, 0, 0, 0)) none))) (cond (Nat.ble 60 pc) (cond (Nat.ble 61 pc) (cond (Nat.ble 64 pc) (cond (Nat.beq pc 64) (some (.iadd, 65, 0, 0, 0, 0)) none) (cond (Nat.beq pc 61) (some (.invokevirtual 241, 64, 115, 1, 851, 0)) none)) (cond (Nat.beq pc 60) (some (.iload_n 2, 61, 0, 0, 0, 0)) none)) (cond (Nat.ble 58 pc) (cond (Nat.beq pc 58) (some (.iload 4, 60, 0, 0, 0, 0)) none) (cond (Nat.beq pc 55) (some (.getfield 33, 58, 9, 3, 360, 0)) none)))) (cond (Nat.ble 46 pc) (cond (Nat.ble 50 pc) (cond (Nat.ble 51 pc) (cond (Nat.ble 54 pc) (cond (Nat.beq pc 54) (some (.aload_n 0, 55, 0, 0, 0, 0)) none) (cond (Nat.beq pc 51) (some (.getfield 63, 54, 9, 7, 364, 0)) none)) (cond (Nat.beq pc 50) (some (.aload_n 0, 51, 0, 0, 0, 0)) none)) (cond (Nat.ble 49 pc) (cond (Nat.beq pc 49) (some (.iload_n 3, 50, 0, 0, 0, 0)) none) (cond (Nat.beq pc 46) (some (.if_icmp .ne 20, 49, 66, 0, 0, 0)) none))) (cond (Nat.ble 42 pc) (cond (Nat.ble 45 pc) (cond (Nat.beq pc 45) (some (.iload_n 1, 46, 0, 0, 0, 0)) none) (cond (Nat.beq pc 42) (some (.invokevirtual 147, 45, 63, 1, 630, 0)) none)) (cond (Nat.ble 40 pc) (cond (Nat.beq pc 40) (some (.bipush 6, 42, 0, 0, 0, 0)) none) (cond (Nat.beq pc 38) (some (.iload 4, 40, 0, 0, 0, 0)) none))))) (cond (Nat.ble 17 pc) (cond (Nat.ble 29 pc) (cond (Nat.ble 31 pc) (cond (Nat.ble 34 pc) (cond (Nat.ble 35 pc) (cond (Nat.beq pc 35) (some (.getfield 33, 38, 9, 3, 360, 0)) none) (cond (Nat.beq pc 34) (some (.aload_n 0, 35, 0, 0, 0, 0)) none)) (cond (Nat.beq pc 31) (some (.if_icmp .eq 18, 34, 49, 0, 0, 0)) none)) (cond (Nat.ble 30 pc) (cond (Nat.beq pc 30) (some (.iconst (-1), 31, 0, 0, 0, 0)) none) (cond (Nat.beq pc 29) (some (.iload_n 1, 30, 0, 0, 0, 0)) none))) (cond (Nat.ble 21 pc) (cond (Nat.ble 23 pc) (cond (Nat.ble 26 pc) (cond (Nat.beq pc 26) (some (.ifCond .eq 40, 29, 66, 0, 0, 0)) none) (cond (Nat.beq pc 23) (some (.invokevirtual 217, 26, 70, 1, 813, 0)) none)) (cond (Nat.beq pc 21) (some (.iload 4, 23, 0, 0, 0, 0)) none)) (cond (Nat.ble 18 pc) (cond (Nat.beq pc 18) (some (.getfield 33, 21, 9, 3, 360, 0)) none) (cond (Nat.beq pc 17) (some (.aload_n 0, 18, 0, 0, 0, 0)) none)))) (cond (Nat.ble 5 pc) (cond (Nat.ble 8 pc) (cond (Nat.ble 11 pc) (cond (Nat.ble 14 pc) (cond (Nat.beq pc 14) (some (.if_icmp .ge 58, 17, 72, 0, 0, 0)) none) (cond (Nat.beq pc 11) (some (.getfield 201, 14, 6, 2, 220, 0)) none)) (cond (Nat.beq pc 8) (some (.getfield 33, 11, 9, 3, 360, 0)) none)) (cond (Nat.ble 7 pc) (cond (Nat.beq pc 7) (some (.aload_n 0, 8, 0, 0, 0, 0)) none) (cond (Nat.beq pc 5) (some (.iload 4, 7, 0, 0, 0, 0)) none))) (cond (Nat.ble 2 pc) (cond (Nat.ble 3 pc) (cond (Nat.beq pc 3) (some (.istore 4, 5, 0, 0, 0, 0)) none) (cond (Nat.beq pc 2) (some (.iconst 0, 3, 0, 0, 0, 0)) none)) (cond (Nat.ble 1 pc) (cond (Nat.beq pc 1) (some (.istore_n 3, 2, 0, 0, 0, 0)) none) (cond (Nat.beq pc 0) (some (.iconst 0, 1, 0, 0, 0, 0)) none))))))
def rc_115 (pc : Nat) : Option RI := cond (Nat.ble 17 pc) none (cond (Nat.ble 7 pc) (cond (Nat.ble 10 pc) (cond (Nat.ble 13 pc) (cond (Nat.ble 16 pc) (cond (Nat.beq pc 16) (some (.ireturn, 17, 0, 0, 0, 0)) none) (cond (Nat.beq pc 13) (some (.invokestatic 38, 16, 4, 0, 864, 0)) none)) (cond (Nat.beq pc 10) (some (.invokevirtual 34, 13, 117, 0, 860, 0)) none)) (cond (Nat.ble 8 pc) (cond (Nat.ble 9 pc) (cond (Nat.beq pc 9) (some (.iload_n 2, 10, 0, 0, 0, 0)) none) (cond (Nat.beq pc 8) (some (.aload_n 1, 9, 0, 0, 0, 0)) none)) (cond (Nat.beq pc 7) (some (.aload_n 0, 8, 0, 0, 0, 0)) none))) (cond (Nat.ble 2 pc) (cond (Nat.ble 3 pc) (cond (Nat.ble 4 pc) (cond (Nat.beq pc 4) (some (.invokevirtual 30, 7, 116, 0, 855, 0)) none) (cond (Nat.beq pc 3) (some (.iload_n 3, 4, 0, 0, 0, 0)) none)) (cond (Nat.beq pc 2) (some (.iload_n 2, 3, 0, 0, 0, 0)) none)) (cond (Nat.ble 1 pc) (cond (Nat.beq pc 1) (some (.aload_n 1, 2, 0, 0, 0, 0)) none) (cond (Nat.beq pc 0) (some (.aload_n 0, 1, 0, 0, 0, 0)) none))))
def rc_116 (pc : Nat) : Option RI := cond (Nat.ble 38 pc) none (cond (Nat.ble 19 pc) (cond (Nat.ble 29 pc) (cond (Nat.ble 32 pc) (cond (Nat.ble 36 pc) (cond (Nat.ble 37 pc) (cond (Nat.beq pc 37) (some (.ireturn, 38, 0, 0, 0, 0)) none) (cond (Nat.beq pc 36) (some (.iadd, 37, 0, 0, 0, 0)) none)) (cond (Nat.ble 35 pc) (cond (Nat.beq pc 35) (some (.imul, 36, 0, 0, 0, 0)) none) (cond (Nat.beq pc 32) (some (.invokevirtual 24, 35, 63, 1, 859, 0)) none))) (cond (Nat.ble 30 pc) (cond (Nat.ble 31 pc) (cond (Nat.beq pc 31) (some (.iconst 2, 32, 0, 0, 0, 0)) none) (cond (Nat.beq pc 30) (some (.iload_n 2, 31, 0, 0, 0, 0)) none)) (cond (Nat.beq pc 29) (some (.aload_n 1, 30, 0, 0, 0, 0)) none))) (cond (Nat.ble 24 pc) (cond (Nat.ble 25 pc) (cond (Nat.ble 26 pc) (cond (Nat.beq pc 26) (some (.getfield 18, 29, 4, 2, 346, 0)) none) (cond (Nat.beq pc 25) (some (.aload_n 0, 26, 0, 0, 0, 0)) none)) (cond (Nat.beq pc 24) (some (.iadd, 25, 0, 0, 0, 0)) none)) (cond (Nat.ble 20 pc) (cond (Nat.ble 23 pc) (cond (Nat.beq pc 23) (some (.imul, 24, 0, 0, 0, 0)) none) (cond (Nat.beq pc 20) (some (.invokevirtual 24, 23, 63, 1, 859, 0)) none)) (cond (Nat.beq pc 19) (some (.iconst 1, 20, 0, 0, 0, 0)) none)))) (cond (Nat.ble 8 pc) (cond (Nat.ble 13 pc) (cond (Nat.ble 17 pc) (cond (Nat.ble 18 pc) (cond (Nat.beq pc 18) (some (.iload_n 2, 19, 0, 0, 0, 0)) none) (cond (Nat.beq pc 17) (some (.aload_n 1, 18, 0, 0, 0, 0)) none)) (cond (Nat.ble 14 pc) (cond (Nat.beq pc 14) (some (.getfield 15, 17, 4, 1, 345, 0)) none) (cond (Nat.beq pc 13) (some (.aload_n 0, 14, 0, 0, 0, 0)) none))) (cond (Nat.ble 9 pc) (cond (Nat.ble 12 pc) (cond (Nat.beq pc 12) (some (.imul, 13, 0, 0, 0, 0)) none) (cond (Nat.beq pc 9) (some (.invokevirtual 24, 12, 63, 1, 859, 0)) none)) (cond (Nat.beq pc 8) (some (.iconst 0, 9, 0, 0, 0, 0)) none))) (cond (Nat.ble 5 pc) (cond (Nat.ble 6 pc) (cond (Nat.ble 7 pc) (cond (Nat.beq pc 7) (some (.iload_n 2, 8, 0, 0, 0, 0)) none) (cond (Nat.beq pc 6) (some (.aload_n 1, 7, 0, 0, 0, 0)) none)) (cond (Nat.beq pc 5) (some (.iadd, 6, 0, 0, 0, 0)) none)) (cond (Nat.ble 1 pc) (cond (Nat.ble 4 pc) (cond (Nat.beq pc 4) (some (.iload_n 3, 5, 0, 0, 0, 0)) none) (cond (Nat.beq pc 1) (some (.getfield 9, 4, 4, 0, 344, 0)) none)) (cond (Nat.beq pc 0) (some (.aload_n 0, 1, 0, 0, 0, 0)) none)))))
def rc_117 (pc : Nat) : Option RI := cond (Nat.ble 15 pc) none (cond (Nat.ble 7 pc) (cond (Nat.ble 11 pc) (cond (Nat.ble 13 pc) (cond (Nat.ble 14 pc) (cond (Nat.beq pc 14) (some (.ireturn, 15, 0, 0, 0, 0)) none) (cond (Nat.beq pc 13) (some (.idiv, 14, 0, 0, 0, 0)) none)) (cond (Nat.beq pc 11) (some (.bipush 100, 13, 0, 0, 0, 0)) none)) (cond (Nat.ble 10 pc) (cond (Nat.beq pc 10) (some (.imul, 11, 0, 0, 0, 0)) none) (cond (Nat.beq pc 7) (some (.invokevirtual 24, 10, 63, 1, 859, 0)) none))) (cond (Nat.ble 4 pc) (cond (Nat.ble 5 pc) (cond (Nat.ble 6 pc) (cond (Nat.beq pc 6) (some (.iconst 3, 7, 0, 0, 0, 0)) none) (cond (Nat.beq pc 5) (some (.iload_n 2, 6, 0, 0, 0, 0)) none)) (cond (Nat.beq pc 4) (some (.aload_n 1, 5, 0, 0, 0, 0)) none)) (cond (Nat.ble 1 pc) (cond (Nat.beq pc 1) (some (.getfield 21, 4, 4, 3, 347, 0)) none) (cond (Nat.beq pc 0) (some (.aload_n 0, 1, 0, 0, 0, 0)) none))))
def rc_118 (pc : Nat) : Option RI := cond (Nat.ble 34 pc) none (cond (Nat.ble 15 pc) (cond (Nat.ble 24 pc) (cond (Nat.ble 29 pc) (cond (Nat.ble 30 pc) (cond (Nat.ble 33 pc) (cond (Nat.beq pc 33) (some (.ireturn, 34, 0, 0, 0, 0)) none) (cond (Nat.beq pc 30) (some (.invokevirtual 78, 33, 13, 0, 396, 0)) none)) (cond (Nat.beq pc 29) (some (.iload_n 2, 30, 0, 0, 0, 0)) none)) (cond (Nat.ble 26 pc) (cond (Nat.beq pc 26) (some (.goto 4, 29, 30, 0, 0, 0)) none) (cond (Nat.beq pc 24) (some (.bipush (-2), 26, 0, 0, 0, 0)) none))) (cond (Nat.ble 17 pc) (cond (Nat.ble 18 pc) (cond (Nat.ble 21 pc) (cond (Nat.beq pc 21) (some (.if_icmp .le 8, 24, 29, 0, 0, 0)) none) (cond (Nat.beq pc 18) (some (.sipush 1000, 21, 0, 0, 0, 0)) none)) (cond (Nat.beq pc 17) (some (.iload_n 2, 18, 0, 0, 0, 0)) none)) (cond (Nat.ble 16 pc) (cond (Nat.beq pc 16) (some (.aload_n 0, 17, 0, 0, 0, 0)) none) (cond (Nat.beq pc 15) (some (.istore_n 2, 16, 0, 0, 0, 0)) none)))) (cond (Nat.ble 6 pc) (cond (Nat.ble 10 pc) (cond (Nat.ble 11 pc) (cond (Nat.ble 12 pc) (cond (Nat.beq pc 12) (some (.invokevirtual 214, 15, 119, 0, 869, 0)) none) (cond (Nat.beq pc 11) (some (.iload_n 1, 12, 0, 0, 0, 0)) none)) (cond (Nat.beq pc 10) (some (.aload_n 0, 11, 0, 0, 0, 0)) none)) (cond (Nat.ble 9 pc) (cond (Nat.beq pc 9) (some (.ireturn, 10, 0, 0, 0, 0)) none) (cond (Nat.beq pc 6) (some (.invokevirtual 74, 9, 12, 0, 392, 0)) none))) (cond (Nat.ble 4 pc) (cond (Nat.ble 5 pc) (cond (Nat.beq pc 5) (some (.iconst 2, 6, 0, 0, 0, 0)) none) (cond (Nat.beq pc 4) (some (.aload_n 0, 5, 0, 0, 0, 0)) none)) (cond (Nat.ble 1 pc) (cond (Nat.beq pc 1) (some (.ifCond .ge 9, 4, 10, 0, 0, 0)) none) (cond (Nat.beq pc 0) (some (.iload_n 1, 1, 0, 0, 0, 0)) none)))))
def rc_119 (pc : Nat) : Option RI := cond (Nat.ble 48 pc) none (cond (Nat.ble 25 pc) (cond (Nat.ble 38 pc) (cond (Nat.ble 44 pc) (cond (Nat.ble 46 pc) (cond (Nat.ble 47 pc) (cond (Nat.beq pc 47) (some (.ireturn, 48, 0, 0, 0, 0)) none) (cond (Nat.beq pc 46) (some (.iadd, 47, 0, 0, 0, 0)) none)) (cond (Nat.ble 45 pc) (cond (Nat.beq pc 45) (some (.iconst 1, 46, 0, 0, 0, 0)) none) (cond (Nat.beq pc 44) (some (.iload_n 2, 45, 0, 0, 0, 0)) none))) (cond (Nat.ble 40 pc) (cond (Nat.ble 41 pc) (cond (Nat.beq pc 41) (some (.goto (-35), 44, 6, 0, 0, 0)) none) (cond (Nat.beq pc 40) (some (.istore_n 3, 41, 0, 0, 0, 0)) none)) (cond (Nat.ble 39 pc) (cond (Nat.beq pc 39) (some (.idiv, 40, 0, 0, 0, 0)) none) (cond (Nat.beq pc 38) (some (.iconst 2, 39, 0, 0, 0, 0)) none)))) (cond (Nat.ble 31 pc) (cond (Nat.ble 36 pc) (cond (Nat.ble 37 pc) (cond (Nat.beq pc 37) (some (.iload_n 3, 38, 0, 0, 0, 0)) none) (cond (Nat.beq pc 36) (some (.istore_n 2, 37, 0, 0, 0, 0)) none)) (cond (Nat.ble 34 pc) (cond (Nat.beq pc 34) (some (.iload 4, 36, 0, 0, 0, 0)) none) (cond (Nat.beq pc 31) (some (.if_icmp .ge 6, 34, 37, 0, 0, 0)) none))) (cond (Nat.ble 27 pc) (cond (Nat.ble 30 pc) (cond (Nat.beq pc 30) (some (.iload_n 1, 31, 0, 0, 0, 0)) none) (cond (Nat.beq pc 27) (some (.invokevirtual 211, 30, 114, 0, 847, 0)) none)) (cond (Nat.beq pc 25) (some (.iload 4, 27, 0, 0, 0, 0)) none)))) (cond (Nat.ble 11 pc) (cond (Nat.ble 17 pc) (cond (Nat.ble 23 pc) (cond (Nat.ble 24 pc) (cond (Nat.beq pc 24) (some (.iconst (-1), 25, 0, 0, 0, 0)) none) (cond (Nat.beq pc 23) (some (.aload_n 0, 24, 0, 0, 0, 0)) none)) (cond (Nat.ble 20 pc) (cond (Nat.beq pc 20) (some (.if_icmp .gt 17, 23, 37, 0, 0, 0)) none) (cond (Nat.beq pc 17) (some (.sipush 1000, 20, 0, 0, 0, 0)) none))) (cond (Nat.ble 13 pc) (cond (Nat.ble 15 pc) (cond (Nat.beq pc 15) (some (.iload 4, 17, 0, 0, 0, 0)) none) (cond (Nat.beq pc 13) (some (.istore 4, 15, 0, 0, 0, 0)) none)) (cond (Nat.ble 12 pc) (cond (Nat.beq pc 12) (some (.iadd, 13, 0, 0, 0, 0)) none) (cond (Nat.beq pc 11) (some (.iload_n 3, 12, 0, 0, 0, 0)) none)))) (cond (Nat.ble 5 pc) (cond (Nat.ble 7 pc) (cond (Nat.ble 10 pc) (cond (Nat.beq pc 10) (some (.iload_n 2, 11, 0, 0, 0, 0)) none) (cond (Nat.beq pc 7) (some (.ifCond .le 37, 10, 44, 0, 0, 0)) none)) (cond (Nat.ble 6 pc) (cond (Nat.beq pc 6) (some (.iload_n 3, 7, 0, 0, 0, 0)) none) (cond (Nat.beq pc 5) (some (.istore_n 3, 6, 0, 0, 0, 0)) none))) (cond (Nat.ble 1 pc) (cond (Nat.ble 2 pc) (cond (Nat.beq pc 2) (some (.sipush 512, 5, 0, 0, 0, 0)) none) (cond (Nat.beq pc 1) (some (.istore_n 2, 2, 0, 0, 0, 0)) none)) (cond (Nat.beq pc 0) (some (.iconst (-1), 1, 0, 0, 0, 0)) none)))))
def rc_120 (pc : Nat) : Option RI := cond (Nat.ble 65 pc) none (cond (Nat.ble 30 pc) (cond (Nat.ble 46 pc) (cond (Nat.ble 54 pc) (cond (Nat.ble 60 pc) (cond (Nat.ble 63 pc) (cond (Nat.ble 64 pc) (cond (Nat.beq pc 64) (some (.ireturn, 65, 0, 0, 0, 0)) none) (cond (Nat.beq pc 63) (some (.iload_n 1, 64, 0, 0, 0, 0)) none)) (cond (Nat.beq pc 60) (some (.goto (-56), 63, 4, 0, 0, 0)) none)) (cond (Nat.ble 57 pc) (cond (Nat.beq pc 57) (some (.iinc 2 1, 60, 0, 0, 0, 0)) none) (cond (Nat.beq pc 54) (some (.iinc 1 1, 57, 0, 0, 0, 0)) none))) (cond (Nat.ble 48 pc) (cond (Nat.ble 51 pc) (cond (Nat.beq pc 51) (some (.if_icmp .ge 6, 54, 57, 0, 0, 0)) none) (cond (Nat.beq pc 48) (some (.invokevirtual 224, 51, 116, 1, 878, 0)) none)) (cond (Nat.ble 47 pc) (cond (Nat.beq pc 47) (some (.iconst 0, 48, 0, 0, 0, 0)) none) (cond (Nat.beq pc 46) (some (.iload_n 2, 47, 0, 0, 0, 0)) none)))) (cond (Nat.ble 38 pc) (cond (Nat.ble 42 pc) (cond (Nat.ble 43 pc) (cond (Nat.beq pc 43) (some (.getfield 33, 46, 9, 3, 360, 0)) none) (cond (Nat.beq pc 42) (some (.aload_n 0, 43, 0, 0, 0, 0)) none)) (cond (Nat.ble 39 pc) (cond (Nat.beq pc 39) (some (.getfield 63, 42, 9, 7, 364, 0)) none) (cond (Nat.beq pc 38) (some (.aload_n 0, 39, 0, 0, 0, 0)) none))) (cond (Nat.ble 34 pc) (cond (Nat.ble 35 pc) (cond (Nat.beq pc 35) (some (.invokevirtual 220, 38, 117, 1, 877, 0)) none) (cond (Nat.beq pc 34) (some (.iload_n 2, 35, 0, 0, 0, 0)) none)) (cond (Nat.ble 31 pc) (cond (Nat.beq pc 31) (some (.getfield 33, 34, 9, 3, 360, 0)) none) (cond (Nat.beq pc 30) (some (.aload_n 0, 31, 0, 0, 0, 0)) none))))) (cond (Nat.ble 12 pc) (cond (Nat.ble 20 pc) (cond (Nat.ble 26 pc) (cond (Nat.ble 27 pc) (cond (Nat.beq pc 27) (some (.getfield 63, 30, 9, 7, 364, 0)) none) (cond (Nat.beq pc 26) (some (.aload_n 0, 27, 0, 0, 0, 0)) none)) (cond (Nat.ble 23 pc) (cond (Nat.beq pc 23) (some (.ifCond .eq 34, 26, 57, 0, 0, 0)) none) (cond (Nat.beq pc 20) (some (.invokevirtual 217, 23, 70, 1, 813, 0)) none))) (cond (Nat.ble 16 pc) (cond (Nat.ble 19 pc) (cond (Nat.beq pc 19) (some (.iload_n 2, 20, 0, 0, 0, 0)) none) (cond (Nat.beq pc 16) (some (.getfield 33, 19, 9, 3, 360, 0)) none)) (cond (Nat.ble 15 pc) (cond (Nat.beq pc 15) (some (.aload_n 0, 16, 0, 0, 0, 0)) none) (cond (Nat.beq pc 12) (some (.if_icmp .ge 51, 15, 63, 0, 0, 0)) none)))) (cond (Nat.ble 4 pc) (cond (Nat.ble 6 pc) (cond (Nat.ble 9 pc) (cond (Nat.beq pc 9) (some (.getfield 201, 12, 6, 2, 220, 0)) none) (cond (Nat.beq pc 6) (some (.getfield 33, 9, 9, 3, 360, 0)) none)) (cond (Nat.ble 5 pc) (cond (Nat.beq pc 5) (some (.aload_n 0, 6, 0, 0, 0, 0)) none) (cond (Nat.beq pc 4) (some (.iload_n 2, 5, 0, 0, 0, 0)) none))) (cond (Nat.ble 2 pc) (cond (Nat.ble 3 pc) (cond (Nat.beq pc 3) (some (.istore_n 2, 4, 0, 0, 0, 0)) none) (cond (Nat.beq pc 2) (some (.iconst 0, 3, 0, 0, 0, 0)) none)) (cond (Nat.ble 1 pc) (cond (Nat.beq pc 1) (some (.istore_n 1, 2, 0, 0, 0, 0)) none) (cond (Nat.beq pc 0) (some (.iconst 0, 1, 0, 0, 0, 0)) none))))))
def rc_121 (pc : Nat) : Option RI := cond (Nat.ble 69 pc) none (cond (Nat.ble 30 pc) (cond (Nat.ble 47 pc) (cond (Nat.ble 58 pc) (cond (Nat.ble 64 pc) (cond (Nat.ble 67 pc) (cond (Nat.ble 68 pc) (cond (Nat.beq pc 68) (some (.ireturn, 69, 0, 0, 0, 0)) none) (cond (Nat.beq pc 67) (some (.iload_n 2, 68, 0, 0, 0, 0)) none)) (cond (Nat.beq pc 64) (some (.goto (-50), 67, 14, 0, 0, 0)) none)) (cond (Nat.ble 61 pc) (cond (Nat.beq pc 61) (some (.iinc 3 1, 64, 0, 0, 0, 0)) none) (cond (Nat.beq pc 58) (some (.iinc 2 1, 61, 0, 0, 0, 0)) none))) (cond (Nat.ble 51 pc) (cond (Nat.ble 52 pc) (cond (Nat.ble 55 pc) (cond (Nat.beq pc 55) (some (.if_icmp .ge 6, 58, 61, 0, 0, 0)) none) (cond (Nat.beq pc 52) (some (.invokevirtual 147, 55, 63, 1, 630, 0)) none)) (cond (Nat.beq pc 51) (some (.iconst 4, 52, 0, 0, 0, 0)) none)) (cond (Nat.ble 50 pc) (cond (Nat.beq pc 50) (some (.iload_n 3, 51, 0, 0, 0, 0)) none) (cond (Nat.beq pc 47) (some (.getfield 33, 50, 9, 3, 360, 0)) none)))) (cond (Nat.ble 38 pc) (cond (Nat.ble 42 pc) (cond (Nat.ble 43 pc) (cond (Nat.ble 46 pc) (cond (Nat.beq pc 46) (some (.aload_n 0, 47, 0, 0, 0, 0)) none) (cond (Nat.beq pc 43) (some (.invokevirtual 147, 46, 63, 1, 630, 0)) none)) (cond (Nat.beq pc 42) (some (.iconst 3, 43, 0, 0, 0, 0)) none)) (cond (Nat.ble 41 pc) (cond (Nat.beq pc 41) (some (.iload_n 3, 42, 0, 0, 0, 0)) none) (cond (Nat.beq pc 38) (some (.getfield 33, 41, 9, 3, 360, 0)) none))) (cond (Nat.ble 34 pc) (cond (Nat.ble 37 pc) (cond (Nat.beq pc 37) (some (.aload_n 0, 38, 0, 0, 0, 0)) none) (cond (Nat.beq pc 34) (some (.if_icmp .ne 27, 37, 61, 0, 0, 0)) none)) (cond (Nat.ble 33 pc) (cond (Nat.beq pc 33) (some (.iload_n 1, 34, 0, 0, 0, 0)) none) (cond (Nat.beq pc 30) (some (.invokevirtual 204, 33, 71, 1, 834, 0)) none))))) (cond (Nat.ble 13 pc) (cond (Nat.ble 19 pc) (cond (Nat.ble 25 pc) (cond (Nat.ble 26 pc) (cond (Nat.ble 29 pc) (cond (Nat.beq pc 29) (some (.iload_n 3, 30, 0, 0, 0, 0)) none) (cond (Nat.beq pc 26) (some (.getfield 33, 29, 9, 3, 360, 0)) none)) (cond (Nat.beq pc 25) (some (.aload_n 0, 26, 0, 0, 0, 0)) none)) (cond (Nat.ble 22 pc) (cond (Nat.beq pc 22) (some (.if_icmp .ge 45, 25, 67, 0, 0, 0)) none) (cond (Nat.beq pc 19) (some (.getfield 201, 22, 6, 2, 220, 0)) none))) (cond (Nat.ble 15 pc) (cond (Nat.ble 16 pc) (cond (Nat.beq pc 16) (some (.getfield 33, 19, 9, 3, 360, 0)) none) (cond (Nat.beq pc 15) (some (.aload_n 0, 16, 0, 0, 0, 0)) none)) (cond (Nat.ble 14 pc) (cond (Nat.beq pc 14) (some (.iload_n 3, 15, 0, 0, 0, 0)) none) (cond (Nat.beq pc 13) (some (.istore_n 3, 14, 0, 0, 0, 0)) none)))) (cond (Nat.ble 8 pc) (cond (Nat.ble 10 pc) (cond (Nat.ble 11 pc) (cond (Nat.ble 12 pc) (cond (Nat.beq pc 12) (some (.iconst 0, 13, 0, 0, 0, 0)) none) (cond (Nat.beq pc 11) (some (.istore_n 2, 12, 0, 0, 0, 0)) none)) (cond (Nat.beq pc 10) (some (.iconst 0, 11, 0, 0, 0, 0)) none)) (cond (Nat.ble 9 pc) (cond (Nat.beq pc 9) (some (.ireturn, 10, 0, 0, 0, 0)) none) (cond (Nat.beq pc 8) (some (.iconst (-1), 9, 0, 0, 0, 0)) none))) (cond (Nat.ble 2 pc) (cond (Nat.ble 5 pc) (cond (Nat.beq pc 5) (some (.ifCond .ne 5, 8, 10, 0, 0, 0)) none) (cond (Nat.beq pc 2) (some (.invokevirtual 92, 5, 18, 0, 417, 0)) none)) (cond (Nat.ble 1 pc) (cond (Nat.beq pc 1) (some (.iload_n 1, 2, 0, 0, 0, 0)) none) (cond (Nat.beq pc 0) (some (.aload_n 0, 1, 0, 0, 0, 0)) none))))))
def rc_122 (pc : Nat) : Option RI := cond (Nat.ble 66 pc) none (cond (Nat.ble 33 pc) (cond (Nat.ble 46 pc) (cond (Nat.ble 57 pc) (cond (Nat.ble 61 pc) (cond (Nat.ble 64 pc) (cond (Nat.ble 65 pc) (cond (Nat.beq pc 65) (some (.ireturn, 66, 0, 0, 0, 0)) none) (cond (Nat.beq pc 64) (some (.iconst (-1), 65, 0, 0, 0, 0)) none)) (cond (Nat.beq pc 61) (some (.goto (-51), 64, 10, 0, 0, 0)) none)) (cond (Nat.ble 58 pc) (cond (Nat.beq pc 58) (some (.iinc 3 1, 61, 0, 0, 0, 0)) none) (cond (Nat.beq pc 57) (some (.ireturn, 58, 0, 0, 0, 0)) none))) (cond (Nat.ble 50 pc) (cond (Nat.ble 53 pc) (cond (Nat.ble 54 pc) (cond (Nat.beq pc 54) (some (.invokevirtual 204, 57, 71, 1, 834, 0)) none) (cond (Nat.beq pc 53) (some (.iload_n 3, 54, 0, 0, 0, 0)) none)) (cond (Nat.beq pc 50) (some (.getfield 33, 53, 9, 3, 360, 0)) none)) (cond (Nat.ble 49 pc) (cond (Nat.beq pc 49) (some (.aload_n 0, 50, 0, 0, 0, 0)) none) (cond (Nat.beq pc 46) (some (.if_icmp .ge 12, 49, 58, 0, 0, 0)) none)))) (cond (Nat.ble 39 pc) (cond (Nat.ble 43 pc) (cond (Nat.ble 44 pc) (cond (Nat.ble 45 pc) (cond (Nat.beq pc 45) (some (.iload_n 2, 46, 0, 0, 0, 0)) none) (cond (Nat.beq pc 44) (some (.iload_n 1, 45, 0, 0, 0, 0)) none)) (cond (Nat.beq pc 43) (some (.istore_n 2, 44, 0, 0, 0, 0)) none)) (cond (Nat.ble 42 pc) (cond (Nat.beq pc 42) (some (.iadd, 43, 0, 0, 0, 0)) none) (cond (Nat.beq pc 39) (some (.invokevirtual 147, 42, 63, 1, 630, 0)) none))) (cond (Nat.ble 37 pc) (cond (Nat.ble 38 pc) (cond (Nat.beq pc 38) (some (.iconst 1, 39, 0, 0, 0, 0)) none) (cond (Nat.beq pc 37) (some (.iload_n 3, 38, 0, 0, 0, 0)) none)) (cond (Nat.ble 34 pc) (cond (Nat.beq pc 34) (some (.getfield 33, 37, 9, 3, 360, 0)) none) (cond (Nat.beq pc 33) (some (.aload_n 0, 34, 0, 0, 0, 0)) none))))) (cond (Nat.ble 11 pc) (cond (Nat.ble 22 pc) (cond (Nat.ble 26 pc) (cond (Nat.ble 29 pc) (cond (Nat.ble 32 pc) (cond (Nat.beq pc 32) (some (.iload_n 2, 33, 0, 0, 0, 0)) none) (cond (Nat.beq pc 29) (some (.ifCond .eq 29, 32, 58, 0, 0, 0)) none)) (cond (Nat.beq pc 26) (some (.invokevirtual 217, 29, 70, 1, 813, 0)) none)) (cond (Nat.ble 25 pc) (cond (Nat.beq pc 25) (some (.iload_n 3, 26, 0, 0, 0, 0)) none) (cond (Nat.beq pc 22) (some (.getfield 33, 25, 9, 3, 360, 0)) none))) (cond (Nat.ble 15 pc) (cond (Nat.ble 18 pc) (cond (Nat.ble 21 pc) (cond (Nat.beq pc 21) (some (.aload_n 0, 22, 0, 0, 0, 0)) none) (cond (Nat.beq pc 18) (some (.if_icmp .ge 46, 21, 64, 0, 0, 0)) none)) (cond (Nat.beq pc 15) (some (.getfield 201, 18, 6, 2, 220, 0)) none)) (cond (Nat.ble 12 pc) (cond (Nat.beq pc 12) (some (.getfield 33, 15, 9, 3, 360, 0)) none) (cond (Nat.beq pc 11) (some (.aload_n 0, 12, 0, 0, 0, 0)) none)))) (cond (Nat.ble 6 pc) (cond (Nat.ble 8 pc) (cond (Nat.ble 9 pc) (cond (Nat.ble 10 pc) (cond (Nat.beq pc 10) (some (.iload_n 3, 11, 0, 0, 0, 0)) none) (cond (Nat.beq pc 9) (some (.istore_n 3, 10, 0, 0, 0, 0)) none)) (cond (Nat.beq pc 8) (some (.iconst 0, 9, 0, 0, 0, 0)) none)) (cond (Nat.ble 7 pc) (cond (Nat.beq pc 7) (some (.istore_n 2, 8, 0, 0, 0, 0)) none) (cond (Nat.beq pc 6) (some (.iconst 0, 7, 0, 0, 0, 0)) none))) (cond (Nat.ble 4 pc) (cond (Nat.ble 5 pc) (cond (Nat.beq pc 5) (some (.ireturn, 6, 0, 0, 0, 0)) none) (cond (Nat.beq pc 4) (some (.iconst (-1), 5, 0, 0, 0, 0)) none)) (cond (Nat.ble 1 pc) (cond (Nat.beq pc 1) (some (.ifCond .ge 5, 4, 6, 0, 0, 0)) none) (cond (Nat.beq pc 0) (some (.iload_n 1, 1, 0, 0, 0, 0)) none))))))
def rc_123 (pc : Nat) : Option RI := cond (Nat.ble 102 pc) none (cond (Nat.ble 72 pc) (cond (Nat.ble 88 pc) (cond (Nat.ble 96 pc) (cond (Nat.ble 100 pc) (cond (Nat.ble 101 pc) (cond (Nat.beq pc 101) (some (.ireturn, 102, 0, 0, 0, 0)) none) (cond (Nat.beq pc 100) (some (.iconst (-1), 101, 0, 0, 0, 0)) none)) (cond (Nat.ble 99 pc) (cond (Nat.beq pc 99) (some (.ireturn, 100, 0, 0, 0, 0)) none) (cond (Nat.beq pc 96) (some (.getfield 89, 99, 7, 1, 139, 0)) none))) (cond (Nat.ble 92 pc) (cond (Nat.ble 93 pc) (cond (Nat.beq pc 93) (some (.getfield 12, 96, 9, 0, 357, 0)) none) (cond (Nat.beq pc 92) (some (.aload_n 0, 93, 0, 0, 0, 0)) none)) (cond (Nat.ble 91 pc) (cond (Nat.beq pc 91) (some (.ireturn, 92, 0, 0, 0, 0)) none) (cond (Nat.beq pc 88) (some (.invokevirtual 230, 91, 124, 0, 891, 0)) none)))) (cond (Nat.ble 80 pc) (cond (Nat.ble 86 pc) (cond (Nat.ble 87 pc) (cond (Nat.beq pc 87) (some (.aload_n 0, 88, 0, 0, 0, 0)) none) (cond (Nat.beq pc 86) (some (.ireturn, 87, 0, 0, 0, 0)) none)) (cond (Nat.ble 83 pc) (cond (Nat.beq pc 83) (some (.getfield 201, 86, 6, 2, 220, 0)) none) (cond (Nat.beq pc 80) (some (.getfield 33, 83, 9, 3, 360, 0)) none))) (cond (Nat.ble 78 pc) (cond (Nat.ble 79 pc) (cond (Nat.beq pc 79) (some (.aload_n 0, 80, 0, 0, 0, 0)) none) (cond (Nat.beq pc 78) (some (.ireturn, 79, 0, 0, 0, 0)) none)) (cond (Nat.ble 75 pc) (cond (Nat.beq pc 75) (some (.getfield 227, 78, 6, 3, 222, 0)) none) (cond (Nat.beq pc 72) (some (.getfield 33, 75, 9, 3, 360, 0)) none))))) (cond (Nat.ble 56 pc) (cond (Nat.ble 64 pc) (cond (Nat.ble 70 pc) (cond (Nat.ble 71 pc) (cond (Nat.beq pc 71) (some (.aload_n 0, 72, 0, 0, 0, 0)) none) (cond (Nat.beq pc 70) (some (.ireturn, 71, 0, 0, 0, 0)) none)) (cond (Nat.ble 67 pc) (cond (Nat.beq pc 67) (some (.getfield 165, 70, 3, 3, 167, 0)) none) (cond (Nat.beq pc 64) (some (.getfield 123, 67, 2, 0, 200, 0)) none))) (cond (Nat.ble 60 pc) (cond (Nat.ble 61 pc) (cond (Nat.beq pc 61) (some (.getfield 26, 64, 9, 2, 359, 0)) none) (cond (Nat.beq pc 60) (some (.aload_n 0, 61, 0, 0, 0, 0)) none)) (cond (Nat.ble 59 pc) (cond (Nat.beq pc 59) (some (.ireturn, 60, 0, 0, 0, 0)) none) (cond (Nat.beq pc 56) (some (.getfield 165, 59, 3, 3, 167, 0)) none)))) (cond (Nat.ble 48 pc) (cond (Nat.ble 50 pc) (cond (Nat.ble 53 pc) (cond (Nat.beq pc 53) (some (.getfield 102, 56, 8, 0, 180, 0)) none) (cond (Nat.beq pc 50) (some (.getfield 19, 53, 9, 1, 358, 0)) none)) (cond (Nat.ble 49 pc) (cond (Nat.beq pc 49) (some (.aload_n 0, 50, 0, 0, 0, 0)) none) (cond (Nat.beq pc 48) (some (.ireturn, 49, 0, 0, 0, 0)) none))) (cond (Nat.ble 44 pc) (cond (Nat.ble 45 pc) (cond (Nat.beq pc 45) (some (.getfield 67, 48, 9, 8, 365, 0)) none) (cond (Nat.beq pc 44) (some (.aload_n 0, 45, 0, 0, 0, 0)) none)) (cond (Nat.ble 1 pc) (cond (Nat.beq pc 1) (some (.tableswitch 99 0 6 #[43, 48, 59, 70, 78, 86, 91], 44, 0, 0, 0, 0)) none) (cond (Nat.beq pc 0) (some (.iload_n 1, 1, 0, 0, 0, 0)) none))))))
def rc_124 (pc : Nat) : Option RI := cond (Nat.ble 37 pc) none (cond (Nat.ble 15 pc) (cond (Nat.ble 26 pc) (cond (Nat.ble 32 pc) (cond (Nat.ble 35 pc) (cond (Nat.ble 36 pc) (cond (Nat.beq pc 36) (some (.ireturn, 37, 0, 0, 0, 0)) none) (cond (Nat.beq pc 35) (some (.iload_n 1, 36, 0, 0, 0, 0)) none)) (cond (Nat.beq pc 32) (some (.goto (-28), 35, 4, 0, 0, 0)) none)) (cond (Nat.ble 29 pc) (cond (Nat.beq pc 29) (some (.iinc 2 1, 32, 0, 0, 0, 0)) none) (cond (Nat.beq pc 26) (some (.iinc 1 1, 29, 0, 0, 0, 0)) none))) (cond (Nat.ble 19 pc) (cond (Nat.ble 20 pc) (cond (Nat.ble 23 pc) (cond (Nat.beq pc 23) (some (.ifCond .eq 6, 26, 29, 0, 0, 0)) none) (cond (Nat.beq pc 20) (some (.invokevirtual 217, 23, 70, 1, 813, 0)) none)) (cond (Nat.beq pc 19) (some (.iload_n 2, 20, 0, 0, 0, 0)) none)) (cond (Nat.ble 16 pc) (cond (Nat.beq pc 16) (some (.getfield 33, 19, 9, 3, 360, 0)) none) (cond (Nat.beq pc 15) (some (.aload_n 0, 16, 0, 0, 0, 0)) none)))) (cond (Nat.ble 4 pc) (cond (Nat.ble 6 pc) (cond (Nat.ble 9 pc) (cond (Nat.ble 12 pc) (cond (Nat.beq pc 12) (some (.if_icmp .ge 23, 15, 35, 0, 0, 0)) none) (cond (Nat.beq pc 9) (some (.getfield 201, 12, 6, 2, 220, 0)) none)) (cond (Nat.beq pc 6) (some (.getfield 33, 9, 9, 3, 360, 0)) none)) (cond (Nat.ble 5 pc) (cond (Nat.beq pc 5) (some (.aload_n 0, 6, 0, 0, 0, 0)) none) (cond (Nat.beq pc 4) (some (.iload_n 2, 5, 0, 0, 0, 0)) none))) (cond (Nat.ble 2 pc) (cond (Nat.ble 3 pc) (cond (Nat.beq pc 3) (some (.istore_n 2, 4, 0, 0, 0, 0)) none) (cond (Nat.beq pc 2) (some (.iconst 0, 3, 0, 0, 0, 0)) none)) (cond (Nat.ble 1 pc) (cond (Nat.beq pc 1) (some (.istore_n 1, 2, 0, 0, 0, 0)) none) (cond (Nat.beq pc 0) (some (.iconst 0, 1, 0, 0, 0, 0)) none)))))
def rc_125 (pc : Nat) : Option RI := cond (Nat.ble 5 pc) none (cond (Nat.ble 1 pc) (cond (Nat.ble 4 pc) (cond (Nat.beq pc 4) (some (.ireturn, 5, 0, 0, 0, 0)) none) (cond (Nat.beq pc 1) (some (.getfield 71, 4, 9, 9, 366, 0)) none)) (cond (Nat.beq pc 0) (some (.aload_n 0, 1, 0, 0, 0, 0)) none))
def rc_126 (pc : Nat) : Option RI := cond (Nat.ble 213 pc) none (cond (Nat.ble 105 pc) (cond (Nat.ble 161 pc) (cond (Nat.ble 186 pc) (cond (Nat.ble 201 pc) (cond (Nat.ble 206 pc) (cond (Nat.ble 209 pc) (cond (Nat.ble 212 pc) (cond (Nat.beq pc 212) (some (.return_, 213, 0, 0, 0, 0)) none) (cond (Nat.beq pc 209) (some (.putfield 92, 212, 11, 49, 1024, 0)) none)) (cond (Nat.ble 207 pc) (cond (Nat.beq pc 207) (some (.bipush 100, 209, 0, 0, 0, 0)) none) (cond (Nat.beq pc 206) (some (.aload_n 0, 207, 0, 0, 0, 0)) none))) (cond (Nat.ble 202 pc) (cond (Nat.ble 203 pc) (cond (Nat.beq pc 203) (some (.putfield 89, 206, 11, 45, 1020, 0)) none) (cond (Nat.beq pc 202) (some (.iconst (-1), 203, 0, 0, 0, 0)) none)) (cond (Nat.beq pc 201) (some (.aload_n 0, 202, 0, 0, 0, 0)) none))) (cond (Nat.ble 193 pc) (cond (Nat.ble 196 pc) (cond (Nat.ble 198 pc) (cond (Nat.beq pc 198) (some (.putfield 86, 201, 11, 40, 1015, 0)) none) (cond (Nat.beq pc 196) (some (.newarray .int, 198, 0, 0, 0, 0)) none)) (cond (Nat.ble 194 pc) (cond (Nat.beq pc 194) (some (.bipush 6, 196, 0, 0, 0, 0)) none) (cond (Nat.beq pc 193) (some (.aload_n 0, 194, 0, 0, 0, 0)) none))) (cond (Nat.ble 188 pc) (cond (Nat.ble 190 pc) (cond (Nat.beq pc 190) (some (.putfield 83, 193, 11, 39, 1014, 0)) none) (cond (Nat.beq pc 188) (some (.newarray .int, 190, 0, 0, 0, 0)) none)) (cond (Nat.beq pc 186) (some (.bipush 6, 188, 0, 0, 0, 0)) none)))) (cond (Nat.ble 172 pc) (cond (Nat.ble 178 pc) (cond (Nat.ble 182 pc) (cond (Nat.ble 185 pc) (cond (Nat.beq pc 185) (some (.aload_n 0, 186, 0, 0, 0, 0)) none) (cond (Nat.beq pc 182) (some (.putfield 80, 185, 11, 38, 1013, 0)) none)) (cond (Nat.ble 180 pc) (cond (Nat.beq pc 180) (some (.newarray .int, 182, 0, 0, 0, 0)) none) (cond (Nat.beq pc 178) (some (.bipush 6, 180, 0, 0, 0, 0)) none))) (cond (Nat.ble 174 pc) (cond (Nat.ble 177 pc) (cond (Nat.beq pc 177) (some (.aload_n 0, 178, 0, 0, 0, 0)) none) (cond (Nat.beq pc 174) (some (.putfield 77, 177, 11, 37, 1012, 0)) none)) (cond (Nat.beq pc 172) (some (.newarray .int, 174, 0, 0, 0, 0)) none))) (cond (Nat.ble 166 pc) (cond (Nat.ble 169 pc) (cond (Nat.ble 170 pc) (cond (Nat.beq pc 170) (some (.bipush 6, 172, 0, 0, 0, 0)) none) (cond (Nat.beq pc 169) (some (.aload_n 0, 170, 0, 0, 0, 0)) none)) (cond (Nat.beq pc 166) (some (.putfield 74, 169, 11, 36, 1011, 0)) none)) (cond (Nat.ble 162 pc) (cond (Nat.ble 164 pc) (cond (Nat.beq pc 164) (some (.newarray .int, 166, 0, 0, 0, 0)) none) (cond (Nat.beq pc 162) (some (.bipush 6, 164, 0, 0, 0, 0)) none)) (cond (Nat.beq pc 161) (some (.aload_n 0, 162, 0, 0, 0, 0)) none))))) (cond (Nat.ble 134 pc) (cond (Nat.ble 146 pc) (cond (Nat.ble 153 pc) (cond (Nat.ble 156 pc) (cond (Nat.ble 158 pc) (cond (Nat.beq pc 158) (some (.putfield 71, 161, 11, 35, 1010, 0)) none) (cond (Nat.beq pc 156) (some (.newarray .int, 158, 0, 0, 0, 0)) none)) (cond (Nat.ble 154 pc) (cond (Nat.beq pc 154) (some (.bipush 6, 156, 0, 0, 0, 0)) none) (cond (Nat.beq pc 153) (some (.aload_n 0, 154, 0, 0, 0, 0)) none))) (cond (Nat.ble 148 pc) (cond (Nat.ble 150 pc) (cond (Nat.beq pc 150) (some (.putfield 68, 153, 11, 33, 1008, 0)) none) (cond (Nat.beq pc 148) (some (.newarray .int, 150, 0, 0, 0, 0)) none)) (cond (Nat.beq pc 146) (some (.bipush 12, 148, 0, 0, 0, 0)) none))) (cond (Nat.ble 140 pc) (cond (Nat.ble 142 pc) (cond (Nat.ble 145 pc) (cond (Nat.beq pc 145) (some (.aload_n 0, 146, 0, 0, 0, 0)) none) (cond (Nat.beq pc 142) (some (.putfield 65, 145, 11, 32, 1007, 0)) none)) (cond (Nat.beq pc 140) (some (.newarray .int, 142, 0, 0, 0, 0)) none)) (cond (Nat.ble 137 pc) (cond (Nat.ble 138 pc) (cond (Nat.beq pc 138) (some (.bipush 12, 140, 0, 0, 0, 0)) none) (cond (Nat.beq pc 137) (some (.aload_n 0, 138, 0, 0, 0, 0)) none)) (cond (Nat.beq pc 134) (some (.putfield 62, 137, 11, 31, 1006, 0)) none)))) (cond (Nat.ble 119 pc) (cond (Nat.ble 125 pc) (cond (Nat.ble 129 pc) (cond (Nat.ble 132 pc) (cond (Nat.beq pc 132) (some (.newarray .int, 134, 0, 0, 0, 0)) none) (cond (Nat.beq pc 129) (some (.sipush 170, 132, 0, 0, 0, 0)) none)) (cond (Nat.ble 128 pc) (cond (Nat.beq pc 128) (some (.aload_n 0, 129, 0, 0, 0, 0)) none) (cond (Nat.beq pc 125) (some (.putfield 59, 128, 11, 30, 1005, 0)) none))) (cond (Nat.ble 120 pc) (cond (Nat.ble 123 pc) (cond (Nat.beq pc 123) (some (.newarray .int, 125, 0, 0, 0, 0)) none) (cond (Nat.beq pc 120) (some (.sipush 170, 123, 0, 0, 0, 0)) none)) (cond (Nat.beq pc 119) (some (.aload_n 0, 120, 0, 0, 0, 0)) none))) (cond (Nat.ble 111 pc) (cond (Nat.ble 114 pc) (cond (Nat.ble 116 pc) (cond (Nat.beq pc 116) (some (.putfield 56, 119, 11, 29, 1004, 0)) none) (cond (Nat.beq pc 114) (some (.newarray .int, 116, 0, 0, 0, 0)) none)) (cond (Nat.beq pc 111) (some (.sipush 170, 114, 0, 0, 0, 0)) none)) (cond (Nat.ble 107 pc) (cond (Nat.ble 110 pc) (cond (Nat.beq pc 110) (some (.aload_n 0, 111, 0, 0, 0, 0)) none) (cond (Nat.beq pc 107) (some (.putfield 53, 110, 11, 28, 1003, 0)) none)) (cond (Nat.beq pc 105) (some (.newarray .int, 107, 0, 0, 0, 0)) none)))))) (cond (Nat.ble 53 pc) (cond (Nat.ble 78 pc) (cond (Nat.ble 90 pc) (cond (Nat.ble 96 pc) (cond (Nat.ble 101 pc) (cond (Nat.ble 102 pc) (cond (Nat.beq pc 102) (some (.sipush 850, 105, 0, 0, 0, 0)) none) (cond (Nat.beq pc 101) (some (.aload_n 0, 102, 0, 0, 0, 0)) none)) (cond (Nat.ble 98 pc) (cond (Nat.beq pc 98) (some (.putfield 50, 101, 11, 27, 1002, 0)) none) (cond (Nat.beq pc 96) (some (.newarray .int, 98, 0, 0, 0, 0)) none))) (cond (Nat.ble 93 pc) (cond (Nat.ble 94 pc) (cond (Nat.beq pc 94) (some (.bipush 20, 96, 0, 0, 0, 0)) none) (cond (Nat.beq pc 93) (some (.aload_n 0, 94, 0, 0, 0, 0)) none)) (cond (Nat.beq pc 90) (some (.putfield 47, 93, 11, 26, 1001, 0)) none))) (cond (Nat.ble 85 pc) (cond (Nat.ble 86 pc) (cond (Nat.ble 88 pc) (cond (Nat.beq pc 88) (some (.newarray .int, 90, 0, 0, 0, 0)) none) (cond (Nat.beq pc 86) (some (.bipush 20, 88, 0, 0, 0, 0)) none)) (cond (Nat.beq pc 85) (some (.aload_n 0, 86, 0, 0, 0, 0)) none)) (cond (Nat.ble 80 pc) (cond (Nat.ble 82 pc) (cond (Nat.beq pc 82) (some (.putfield 44, 85, 11, 25, 1000, 0)) none) (cond (Nat.beq pc 80) (some (.newarray .int, 82, 0, 0, 0, 0)) none)) (cond (Nat.beq pc 78) (some (.bipush 20, 80, 0, 0, 0, 0)) none)))) (cond (Nat.ble 64 pc) (cond (Nat.ble 70 pc) (cond (Nat.ble 74 pc) (cond (Nat.ble 77 pc) (cond (Nat.beq pc 77) (some (.aload_n 0, 78, 0, 0, 0, 0)) none) (cond (Nat.beq pc 74) (some (.putfield 41, 77, 11, 24, 999, 0)) none)) (cond (Nat.ble 72 pc) (cond (Nat.beq pc 72) (some (.newarray .int, 74, 0, 0, 0, 0)) none) (cond (Nat.beq pc 70) (some (.bipush 20, 72, 0, 0, 0, 0)) none))) (cond (Nat.ble 66 pc) (cond (Nat.ble 69 pc) (cond (Nat.beq pc 69) (some (.aload_n 0, 70, 0, 0, 0, 0)) none) (cond (Nat.beq pc 66) (some (.putfield 38, 69, 11, 21, 996, 0)) none)) (cond (Nat.beq pc 64) (some (.newarray .int, 66, 0, 0, 0, 0)) none))) (cond (Nat.ble 58 pc) (cond (Nat.ble 61 pc) (cond (Nat.ble 62 pc) (cond (Nat.beq pc 62) (some (.bipush 16, 64, 0, 0, 0, 0)) none) (cond (Nat.beq pc 61) (some (.aload_n 0, 62, 0, 0, 0, 0)) none)) (cond (Nat.beq pc 58) (some (.putfield 35, 61, 11, 20, 995, 0)) none)) (cond (Nat.ble 54 pc) (cond (Nat.ble 56 pc) (cond (Nat.beq pc 56) (some (.newarray .int, 58, 0, 0, 0, 0)) none) (cond (Nat.beq pc 54) (some (.bipush 30, 56, 0, 0, 0, 0)) none)) (cond (Nat.beq pc 53) (some (.aload_n 0, 54, 0, 0, 0, 0)) none))))) (cond (Nat.ble 26 pc) (cond (Nat.ble 38 pc) (cond (Nat.ble 45 pc) (cond (Nat.ble 48 pc) (cond (Nat.ble 50 pc) (cond (Nat.beq pc 50) (some (.putfield 31, 53, 11, 19, 994, 0)) none) (cond (Nat.beq pc 48) (some (.newarray .int, 50, 0, 0, 0, 0)) none)) (cond (Nat.ble 46 pc) (cond (Nat.beq pc 46) (some (.bipush 30, 48, 0, 0, 0, 0)) none) (cond (Nat.beq pc 45) (some (.aload_n 0, 46, 0, 0, 0, 0)) none))) (cond (Nat.ble 40 pc) (cond (Nat.ble 42 pc) (cond (Nat.beq pc 42) (some (.putfield 28, 45, 11, 18, 993, 0)) none) (cond (Nat.beq pc 40) (some (.newarray .long, 42, 0, 0, 0, 0)) none)) (cond (Nat.beq pc 38) (some (.bipush 16, 40, 0, 0, 0, 0)) none))) (cond (Nat.ble 32 pc) (cond (Nat.ble 34 pc) (cond (Nat.ble 37 pc) (cond (Nat.beq pc 37) (some (.aload_n 0, 38, 0, 0, 0, 0)) none) (cond (Nat.beq pc 34) (some (.putfield 24, 37, 11, 17, 992, 0)) none)) (cond (Nat.beq pc 32) (some (.newarray .long, 34, 0, 0, 0, 0)) none)) (cond (Nat.ble 29 pc) (cond (Nat.ble 30 pc) (cond (Nat.beq pc 30) (some (.bipush 30, 32, 0, 0, 0, 0)) none) (cond (Nat.beq pc 29) (some (.aload_n 0, 30, 0, 0, 0, 0)) none)) (cond (Nat.beq pc 26) (some (.putfield 20, 29, 11, 5, 980, 0)) none)))) (cond (Nat.ble 10 pc) (cond (Nat.ble 17 pc) (cond (Nat.ble 21 pc) (cond (Nat.ble 24 pc) (cond (Nat.beq pc 24) (some (.newarray .byte, 26, 0, 0, 0, 0)) none) (cond (Nat.beq pc 21) (some (.sipush 400, 24, 0, 0, 0, 0)) none)) (cond (Nat.ble 20 pc) (cond (Nat.beq pc 20) (some (.aload_n 0, 21, 0, 0, 0, 0)) none) (cond (Nat.beq pc 17) (some (.putfield 16, 20, 11, 4, 979, 0)) none))) (cond (Nat.ble 13 pc) (cond (Nat.ble 14 pc) (cond (Nat.beq pc 14) (some (.invokespecial 15, 17, 127, 0, 944, 0)) none) (cond (Nat.beq pc 13) (some (.dup, 14, 0, 0, 0, 0)) none)) (cond (Nat.beq pc 10) (some (.new 13, 13, 10, 0, 905, 0)) none))) (cond (Nat.ble 5 pc) (cond (Nat.ble 6 pc) (cond (Nat.ble 9 pc) (cond (Nat.beq pc 9) (some (.aload_n 0, 10, 0, 0, 0, 0)) none) (cond (Nat.beq pc 6) (some (.putfield 9, 9, 11, 2, 977, 0)) none)) (cond (Nat.beq pc 5) (some (.iconst (-1), 6, 0, 0, 0, 0)) none)) (cond (Nat.ble 1 pc) (cond (Nat.ble 4 pc) (cond (Nat.beq pc 4) (some (.aload_n 0, 5, 0, 0, 0, 0)) none) (cond (Nat.beq pc 1) (some (.invokespecial 1, 4, 999, 2, 904, 0)) none)) (cond (Nat.beq pc 0) (some (.aload_n 0, 1, 0, 0, 0, 0)) none)))))))
def rc_127 (pc : Nat) : Option RI := cond (Nat.ble 9 pc) none (cond (Nat.ble 3 pc) (cond (Nat.ble 5 pc) (cond (Nat.ble 8 pc) (cond (Nat.beq pc 8) (some (.return_, 9, 0, 0, 0, 0)) none) (cond (Nat.beq pc 5) (some (.invokespecial 1, 8, 128, 0, 947, 0)) none)) (cond (Nat.ble 4 pc) (cond (Nat.beq pc 4) (some (.iconst 0, 5, 0, 0, 0, 0)) none) (cond (Nat.beq pc 3) (some (.iconst 0, 4, 0, 0, 0, 0)) none))) (cond (Nat.ble 1 pc) (cond (Nat.ble 2 pc) (cond (Nat.beq pc 2) (some (.aconst_null, 3, 0, 0, 0, 0)) none) (cond (Nat.beq pc 1) (some (.aconst_null, 2, 0, 0, 0, 0)) none)) (cond (Nat.beq pc 0) (some (.aload_n 0, 1, 0, 0, 0, 0)) none)))
def rc_128 (pc : Nat) : Option RI := cond (Nat.ble 10 pc) none (cond (Nat.ble 3 pc) (cond (Nat.ble 6 pc) (cond (Nat.ble 9 pc) (cond (Nat.beq pc 9) (some (.return_, 10, 0, 0, 0, 0)) none) (cond (Nat.beq pc 6) (some (.invokespecial 16, 9, 129, 0, 950, 0)) none)) (cond (Nat.ble 4 pc) (cond (Nat.beq pc 4) (some (.iload 4, 6, 0, 0, 0, 0)) none) (cond (Nat.beq pc 3) (some (.iload_n 3, 4, 0, 0, 0, 0)) none))) (cond (Nat.ble 1 pc) (cond (Nat.ble 2 pc) (cond (Nat.beq pc 2) (some (.aload_n 2, 3, 0, 0, 0, 0)) none) (cond (Nat.beq pc 1) (some (.aload_n 1, 2, 0, 0, 0, 0)) none)) (cond (Nat.beq pc 0) (some (.aload_n 0, 1, 0, 0, 0, 0)) none)))
def rc_129 (pc : Nat) : Option RI := cond (Nat.ble 10 pc) none (cond (Nat.ble 3 pc) (cond (Nat.ble 6 pc) (cond (Nat.ble 9 pc) (cond (Nat.beq pc 9) (some (.return_, 10, 0, 0, 0, 0)) none) (cond (Nat.beq pc 6) (some (.invokespecial 16, 9, 130, 0, 953, 0)) none)) (cond (Nat.ble 4 pc) (cond (Nat.beq pc 4) (some (.iload 4, 6, 0, 0, 0, 0)) none) (cond (Nat.beq pc 3) (some (.iload_n 3, 4, 0, 0, 0, 0)) none))) (cond (Nat.ble 1 pc) (cond (Nat.ble 2 pc) (cond (Nat.beq pc 2) (some (.aload_n 2, 3, 0, 0, 0, 0)) none) (cond (Nat.beq pc 1) (some (.aload_n 1, 2, 0, 0, 0, 0)) none)) (cond (Nat.beq pc 0) (some (.aload_n 0, 1, 0, 0, 0, 0)) none)))
def rc_130 (pc : Nat) : Option RI := cond (Nat.ble 61 pc) none (cond (Nat.ble 33 pc) (cond (Nat.ble 47 pc) (cond (Nat.ble 55 pc) (cond (Nat.ble 57 pc) (cond (Nat.ble 60 pc) (cond (Nat.beq pc 60) (some (.return_, 61, 0, 0, 0, 0)) none) (cond (Nat.beq pc 57) (some (.putfield 24, 60, 10, 2, 962, 0)) none)) (cond (Nat.ble 56 pc) (cond (Nat.beq pc 56) (some (.aconst_null, 57, 0, 0, 0, 0)) none) (cond (Nat.beq pc 55) (some (.aload_n 0, 56, 0, 0, 0, 0)) none))) (cond (Nat.ble 51 pc) (cond (Nat.ble 52 pc) (cond (Nat.beq pc 52) (some (.ifCond .ne 8, 55, 60, 0, 0, 0)) none) (cond (Nat.beq pc 51) (some (.iload_n 3, 52, 0, 0, 0, 0)) none)) (cond (Nat.ble 48 pc) (cond (Nat.beq pc 48) (some (.putfield 7, 51, 10, 0, 960, 0)) none) (cond (Nat.beq pc 47) (some (.aload_n 2, 48, 0, 0, 0, 0)) none)))) (cond (Nat.ble 41 pc) (cond (Nat.ble 43 pc) (cond (Nat.ble 46 pc) (cond (Nat.beq pc 46) (some (.aload_n 0, 47, 0, 0, 0, 0)) none) (cond (Nat.beq pc 43) (some (.putfield 31, 46, 10, 3, 959, 0)) none)) (cond (Nat.ble 42 pc) (cond (Nat.beq pc 42) (some (.aload_n 1, 43, 0, 0, 0, 0)) none) (cond (Nat.beq pc 41) (some (.aload_n 0, 42, 0, 0, 0, 0)) none))) (cond (Nat.ble 37 pc) (cond (Nat.ble 38 pc) (cond (Nat.beq pc 38) (some (.putfield 17, 41, 10, 1, 961, 0)) none) (cond (Nat.beq pc 37) (some (.aconst_null, 38, 0, 0, 0, 0)) none)) (cond (Nat.ble 36 pc) (cond (Nat.beq pc 36) (some (.aload_n 0, 37, 0, 0, 0, 0)) none) (cond (Nat.beq pc 33) (some (.goto 8, 36, 41, 0, 0, 0)) none))))) (cond (Nat.ble 13 pc) (cond (Nat.ble 23 pc) (cond (Nat.ble 28 pc) (cond (Nat.ble 32 pc) (cond (Nat.beq pc 32) (some (.pop, 33, 0, 0, 0, 0)) none) (cond (Nat.beq pc 28) (some (.aload_n 0, 29, 0, 0, 0, 0)) none)) (cond (Nat.ble 25 pc) (cond (Nat.beq pc 25) (some (.ifCond .eq 11, 28, 36, 0, 0, 0)) none) (cond (Nat.beq pc 23) (some (.iload 4, 25, 0, 0, 0, 0)) none))) (cond (Nat.ble 17 pc) (cond (Nat.ble 20 pc) (cond (Nat.beq pc 20) (some (.putfield 24, 23, 10, 2, 962, 0)) none) (cond (Nat.beq pc 17) (some (.getstatic 20, 20, 3, 0, 933, 0)) none)) (cond (Nat.ble 16 pc) (cond (Nat.beq pc 16) (some (.aload_n 0, 17, 0, 0, 0, 0)) none) (cond (Nat.beq pc 13) (some (.putfield 17, 16, 10, 1, 961, 0)) none)))) (cond (Nat.ble 5 pc) (cond (Nat.ble 9 pc) (cond (Nat.ble 10 pc) (cond (Nat.beq pc 10) (some (.getstatic 13, 13, 2, 0, 931, 0)) none) (cond (Nat.beq pc 9) (some (.aload_n 0, 10, 0, 0, 0, 0)) none)) (cond (Nat.ble 6 pc) (cond (Nat.beq pc 6) (some (.putfield 7, 9, 10, 0, 960, 0)) none) (cond (Nat.beq pc 5) (some (.aload_n 0, 6, 0, 0, 0, 0)) none))) (cond (Nat.ble 1 pc) (cond (Nat.ble 4 pc) (cond (Nat.beq pc 4) (some (.aload_n 0, 5, 0, 0, 0, 0)) none) (cond (Nat.beq pc 1) (some (.invokespecial 1, 4, 999, 2, 930, 0)) none)) (cond (Nat.beq pc 0) (some (.aload_n 0, 1, 0, 0, 0, 0)) none)))))
def rc_131 (pc : Nat) : Option RI := cond (Nat.ble 122 pc) none (cond (Nat.ble 64 pc) (cond (Nat.ble 96 pc) (cond (Nat.ble 106 pc) (cond (Nat.ble 114 pc) (cond (Nat.ble 118 pc) (cond (Nat.ble 121 pc) (cond (Nat.beq pc 121) (some (.ireturn, 122, 0, 0, 0, 0)) none) (cond (Nat.beq pc 118) (some (.getfield 150, 121, 11, 6, 981, 0)) none)) (cond (Nat.ble 117 pc) (cond (Nat.beq pc 117) (some (.aload_n 0, 118, 0, 0, 0, 0)) none) (cond (Nat.beq pc 114) (some (.goto (-91), 117, 23, 0, 0, 0)) none))) (cond (Nat.ble 108 pc) (cond (Nat.ble 111 pc) (cond (Nat.beq pc 111) (some (.iinc 6 1, 114, 0, 0, 0, 0)) none) (cond (Nat.beq pc 108) (some (.putfield 150, 111, 11, 6, 981, 0)) none)) (cond (Nat.ble 107 pc) (cond (Nat.beq pc 107) (some (.iadd, 108, 0, 0, 0, 0)) none) (cond (Nat.beq pc 106) (some (.iconst 1, 107, 0, 0, 0, 0)) none)))) (cond (Nat.ble 100 pc) (cond (Nat.ble 102 pc) (cond (Nat.ble 103 pc) (cond (Nat.beq pc 103) (some (.getfield 150, 106, 11, 6, 981, 0)) none) (cond (Nat.beq pc 102) (some (.dup, 103, 0, 0, 0, 0)) none)) (cond (Nat.ble 101 pc) (cond (Nat.beq pc 101) (some (.aload_n 0, 102, 0, 0, 0, 0)) none) (cond (Nat.beq pc 100) (some (.bastore, 101, 0, 0, 0, 0)) none))) (cond (Nat.ble 98 pc) (cond (Nat.ble 99 pc) (cond (Nat.beq pc 99) (some (.i2b, 100, 0, 0, 0, 0)) none) (cond (Nat.beq pc 98) (some (.ishr, 99, 0, 0, 0, 0)) none)) (cond (Nat.ble 97 pc) (cond (Nat.beq pc 97) (some (.isub, 98, 0, 0, 0, 0)) none) (cond (Nat.beq pc 96) (some (.imul, 97, 0, 0, 0, 0)) none))))) (cond (Nat.ble 82 pc) (cond (Nat.ble 90 pc) (cond (Nat.ble 94 pc) (cond (Nat.ble 95 pc) (cond (Nat.beq pc 95) (some (.irem, 96, 0, 0, 0, 0)) none) (cond (Nat.beq pc 94) (some (.iconst 4, 95, 0, 0, 0, 0)) none)) (cond (Nat.ble 92 pc) (cond (Nat.beq pc 92) (some (.iload 6, 94, 0, 0, 0, 0)) none) (cond (Nat.beq pc 90) (some (.bipush 8, 92, 0, 0, 0, 0)) none))) (cond (Nat.ble 86 pc) (cond (Nat.ble 88 pc) (cond (Nat.beq pc 88) (some (.bipush 24, 90, 0, 0, 0, 0)) none) (cond (Nat.beq pc 86) (some (.iload 7, 88, 0, 0, 0, 0)) none)) (cond (Nat.ble 83 pc) (cond (Nat.beq pc 83) (some (.getfield 150, 86, 11, 6, 981, 0)) none) (cond (Nat.beq pc 82) (some (.aload_n 0, 83, 0, 0, 0, 0)) none)))) (cond (Nat.ble 74 pc) (cond (Nat.ble 78 pc) (cond (Nat.ble 79 pc) (cond (Nat.beq pc 79) (some (.getfield 20, 82, 11, 5, 980, 0)) none) (cond (Nat.beq pc 78) (some (.aload_n 0, 79, 0, 0, 0, 0)) none)) (cond (Nat.ble 76 pc) (cond (Nat.beq pc 76) (some (.istore 7, 78, 0, 0, 0, 0)) none) (cond (Nat.beq pc 74) (some (.iload 5, 76, 0, 0, 0, 0)) none))) (cond (Nat.ble 69 pc) (cond (Nat.ble 71 pc) (cond (Nat.beq pc 71) (some (.goto 5, 74, 76, 0, 0, 0)) none) (cond (Nat.beq pc 69) (some (.iload 4, 71, 0, 0, 0, 0)) none)) (cond (Nat.ble 66 pc) (cond (Nat.beq pc 66) (some (.if_icmp .ge 8, 69, 74, 0, 0, 0)) none) (cond (Nat.beq pc 64) (some (.bipush 16, 66, 0, 0, 0, 0)) none)))))) (cond (Nat.ble 30 pc) (cond (Nat.ble 47 pc) (cond (Nat.ble 55 pc) (cond (Nat.ble 59 pc) (cond (Nat.ble 62 pc) (cond (Nat.beq pc 62) (some (.iload 6, 64, 0, 0, 0, 0)) none) (cond (Nat.beq pc 59) (some (.goto 17, 62, 76, 0, 0, 0)) none)) (cond (Nat.ble 58 pc) (cond (Nat.beq pc 58) (some (.iload_n 3, 59, 0, 0, 0, 0)) none) (cond (Nat.beq pc 55) (some (.if_icmp .ge 7, 58, 62, 0, 0, 0)) none))) (cond (Nat.ble 51 pc) (cond (Nat.ble 53 pc) (cond (Nat.beq pc 53) (some (.bipush 12, 55, 0, 0, 0, 0)) none) (cond (Nat.beq pc 51) (some (.iload 6, 53, 0, 0, 0, 0)) none)) (cond (Nat.ble 48 pc) (cond (Nat.beq pc 48) (some (.goto 28, 51, 76, 0, 0, 0)) none) (cond (Nat.beq pc 47) (some (.iload_n 2, 48, 0, 0, 0, 0)) none)))) (cond (Nat.ble 37 pc) (cond (Nat.ble 42 pc) (cond (Nat.ble 44 pc) (cond (Nat.beq pc 44) (some (.if_icmp .ge 7, 47, 51, 0, 0, 0)) none) (cond (Nat.beq pc 42) (some (.bipush 8, 44, 0, 0, 0, 0)) none)) (cond (Nat.ble 40 pc) (cond (Nat.beq pc 40) (some (.iload 6, 42, 0, 0, 0, 0)) none) (cond (Nat.beq pc 37) (some (.goto 39, 40, 76, 0, 0, 0)) none))) (cond (Nat.ble 33 pc) (cond (Nat.ble 36 pc) (cond (Nat.beq pc 36) (some (.iload_n 1, 37, 0, 0, 0, 0)) none) (cond (Nat.beq pc 33) (some (.if_icmp .ge 7, 36, 40, 0, 0, 0)) none)) (cond (Nat.ble 32 pc) (cond (Nat.beq pc 32) (some (.iconst 4, 33, 0, 0, 0, 0)) none) (cond (Nat.beq pc 30) (some (.iload 6, 32, 0, 0, 0, 0)) none))))) (cond (Nat.ble 15 pc) (cond (Nat.ble 21 pc) (cond (Nat.ble 25 pc) (cond (Nat.ble 27 pc) (cond (Nat.beq pc 27) (some (.if_icmp .ge 90, 30, 117, 0, 0, 0)) none) (cond (Nat.beq pc 25) (some (.bipush 20, 27, 0, 0, 0, 0)) none)) (cond (Nat.ble 23 pc) (cond (Nat.beq pc 23) (some (.iload 6, 25, 0, 0, 0, 0)) none) (cond (Nat.beq pc 21) (some (.istore 6, 23, 0, 0, 0, 0)) none))) (cond (Nat.ble 19 pc) (cond (Nat.ble 20 pc) (cond (Nat.beq pc 20) (some (.iconst 0, 21, 0, 0, 0, 0)) none) (cond (Nat.beq pc 19) (some (.ireturn, 20, 0, 0, 0, 0)) none)) (cond (Nat.ble 18 pc) (cond (Nat.beq pc 18) (some (.iconst (-1), 19, 0, 0, 0, 0)) none) (cond (Nat.beq pc 15) (some (.if_icmp .le 5, 18, 20, 0, 0, 0)) none)))) (cond (Nat.ble 6 pc) (cond (Nat.ble 11 pc) (cond (Nat.ble 12 pc) (cond (Nat.beq pc 12) (some (.sipush 400, 15, 0, 0, 0, 0)) none) (cond (Nat.beq pc 11) (some (.iadd, 12, 0, 0, 0, 0)) none)) (cond (Nat.ble 9 pc) (cond (Nat.beq pc 9) (some (.bipush 20, 11, 0, 0, 0, 0)) none) (cond (Nat.beq pc 6) (some (.getfield 150, 9, 11, 6, 981, 0)) none))) (cond (Nat.ble 2 pc) (cond (Nat.ble 5 pc) (cond (Nat.beq pc 5) (some (.aload_n 0, 6, 0, 0, 0, 0)) none) (cond (Nat.beq pc 2) (some (.putfield 95, 5, 11, 0, 975, 0)) none)) (cond (Nat.ble 1 pc) (cond (Nat.beq pc 1) (some (.iconst 0, 2, 0, 0, 0, 0)) none) (cond (Nat.beq pc 0) (some (.aload_n 0, 1, 0, 0, 0, 0)) none)))))))
def rc_132 (pc : Nat) : Option RI := cond (Nat.ble 41 pc) none (cond (Nat.ble 21 pc) (cond (Nat.ble 31 pc) (cond (Nat.ble 36 pc) (cond (Nat.ble 37 pc) (cond (Nat.ble 40 pc) (cond (Nat.beq pc 40) (some (.ireturn, 41, 0, 0, 0, 0)) none) (cond (Nat.beq pc 37) (some (.invokevirtual 176, 40, 134, 0, 1139, 0)) none)) (cond (Nat.beq pc 36) (some (.isub, 37, 0, 0, 0, 0)) none)) (cond (Nat.ble 32 pc) (cond (Nat.ble 35 pc) (cond (Nat.beq pc 35) (some (.iconst 1, 36, 0, 0, 0, 0)) none) (cond (Nat.beq pc 32) (some (.getfield 164, 35, 11, 14, 989, 0)) none)) (cond (Nat.beq pc 31) (some (.aload_n 0, 32, 0, 0, 0, 0)) none))) (cond (Nat.ble 26 pc) (cond (Nat.ble 27 pc) (cond (Nat.ble 30 pc) (cond (Nat.beq pc 30) (some (.aload_n 0, 31, 0, 0, 0, 0)) none) (cond (Nat.beq pc 27) (some (.putfield 164, 30, 11, 14, 989, 0)) none)) (cond (Nat.beq pc 26) (some (.iadd, 27, 0, 0, 0, 0)) none)) (cond (Nat.ble 22 pc) (cond (Nat.ble 25 pc) (cond (Nat.beq pc 25) (some (.iconst 1, 26, 0, 0, 0, 0)) none) (cond (Nat.beq pc 22) (some (.getfield 164, 25, 11, 14, 989, 0)) none)) (cond (Nat.beq pc 21) (some (.dup, 22, 0, 0, 0, 0)) none)))) (cond (Nat.ble 11 pc) (cond (Nat.ble 16 pc) (cond (Nat.ble 19 pc) (cond (Nat.ble 20 pc) (cond (Nat.beq pc 20) (some (.aload_n 0, 21, 0, 0, 0, 0)) none) (cond (Nat.beq pc 19) (some (.ireturn, 20, 0, 0, 0, 0)) none)) (cond (Nat.beq pc 16) (some (.invokevirtual 173, 19, 133, 0, 1135, 0)) none)) (cond (Nat.ble 14 pc) (cond (Nat.ble 15 pc) (cond (Nat.beq pc 15) (some (.iconst 3, 16, 0, 0, 0, 0)) none) (cond (Nat.beq pc 14) (some (.aload_n 0, 15, 0, 0, 0, 0)) none)) (cond (Nat.beq pc 11) (some (.if_icmp .ne 9, 14, 20, 0, 0, 0)) none))) (cond (Nat.ble 5 pc) (cond (Nat.ble 6 pc) (cond (Nat.ble 9 pc) (cond (Nat.beq pc 9) (some (.bipush 8, 11, 0, 0, 0, 0)) none) (cond (Nat.beq pc 6) (some (.getfield 164, 9, 11, 14, 989, 0)) none)) (cond (Nat.beq pc 5) (some (.aload_n 0, 6, 0, 0, 0, 0)) none)) (cond (Nat.ble 1 pc) (cond (Nat.ble 2 pc) (cond (Nat.beq pc 2) (some (.putfield 95, 5, 11, 0, 975, 0)) none) (cond (Nat.beq pc 1) (some (.iconst 0, 2, 0, 0, 0, 0)) none)) (cond (Nat.beq pc 0) (some (.aload_n 0, 1, 0, 0, 0, 0)) none)))))
def rc_133 (pc : Nat) : Option RI := cond (Nat.ble 12 pc) none (cond (Nat.ble 6 pc) (cond (Nat.ble 10 pc) (cond (Nat.ble 11 pc) (cond (Nat.beq pc 11) (some (.ireturn, 12, 0, 0, 0, 0)) none) (cond (Nat.beq pc 10) (some (.iconst (-1), 11, 0, 0, 0, 0)) none)) (cond (Nat.ble 7 pc) (cond (Nat.beq pc 7) (some (.putfield 9, 10, 11, 2, 977, 0)) none) (cond (Nat.beq pc 6) (some (.iconst (-1), 7, 0, 0, 0, 0)) none))) (cond (Nat.ble 2 pc) (cond (Nat.ble 5 pc) (cond (Nat.beq pc 5) (some (.aload_n 0, 6, 0, 0, 0, 0)) none) (cond (Nat.beq pc 2) (some (.putfield 98, 5, 11, 1, 976, 0)) none)) (cond (Nat.ble 1 pc) (cond (Nat.beq pc 1) (some (.iload_n 1, 2, 0, 0, 0, 0)) none) (cond (Nat.beq pc 0) (some (.aload_n 0, 1, 0, 0, 0, 0)) none))))
def rc_134 (pc : Nat) : Option RI := cond (Nat.ble 12 pc) none (cond (Nat.ble 6 pc) (cond (Nat.ble 10 pc) (cond (Nat.ble 11 pc) (cond (Nat.beq pc 11) (some (.ireturn, 12, 0, 0, 0, 0)) none) (cond (Nat.beq pc 10) (some (.iload_n 1, 11, 0, 0, 0, 0)) none)) (cond (Nat.ble 7 pc) (cond (Nat.beq pc 7) (some (.putfield 9, 10, 11, 2, 977, 0)) none) (cond (Nat.beq pc 6) (some (.iconst (-1), 7, 0, 0, 0, 0)) none))) (cond (Nat.ble 2 pc) (cond (Nat.ble 5 pc) (cond (Nat.beq pc 5) (some (.aload_n 0, 6, 0, 0, 0, 0)) none) (cond (Nat.beq pc 2) (some (.putfield 98, 5, 11, 1, 976, 0)) none)) (cond (Nat.ble 1 pc) (cond (Nat.beq pc 1) (some (.iconst 0, 2, 0, 0, 0, 0)) none) (cond (Nat.beq pc 0) (some (.aload_n 0, 1, 0, 0, 0, 0)) none))))
def rc_135 (pc : Nat) : Option RI := cond (Nat.ble 146 pc) none (cond (Nat.ble 74 pc) (cond (Nat.ble 113 pc) (cond (Nat.ble 127 pc) (cond (Nat.ble 136 pc) (cond (Nat.ble 141 pc) (cond (Nat.ble 142 pc) (cond (Nat.ble 145 pc) (cond (Nat.beq pc 145) (some (.ireturn, 146, 0, 0, 0, 0)) none) (cond (Nat.beq pc 142) (some (.invokevirtual 176, 145, 134, 0, 1139, 0)) none)) (cond (Nat.beq pc 141) (some (.isub, 142, 0, 0, 0, 0)) none)) (cond (Nat.ble 137 pc) (cond (Nat.ble 140 pc) (cond (Nat.beq pc 140) (some (.iconst 1, 141, 0, 0, 0, 0)) none) (cond (Nat.beq pc 137) (some (.getfield 167, 140, 11, 15, 990, 0)) none)) (cond (Nat.beq pc 136) (some (.aload_n 0, 137, 0, 0, 0, 0)) none))) (cond (Nat.ble 131 pc) (cond (Nat.ble 132 pc) (cond (Nat.ble 135 pc) (cond (Nat.beq pc 135) (some (.aload_n 0, 136, 0, 0, 0, 0)) none) (cond (Nat.beq pc 132) (some (.putfield 167, 135, 11, 15, 990, 0)) none)) (cond (Nat.beq pc 131) (some (.iadd, 132, 0, 0, 0, 0)) none)) (cond (Nat.ble 130 pc) (cond (Nat.beq pc 130) (some (.iconst 1, 131, 0, 0, 0, 0)) none) (cond (Nat.beq pc 127) (some (.getfield 167, 130, 11, 15, 990, 0)) none)))) (cond (Nat.ble 120 pc) (cond (Nat.ble 124 pc) (cond (Nat.ble 125 pc) (cond (Nat.ble 126 pc) (cond (Nat.beq pc 126) (some (.dup, 127, 0, 0, 0, 0)) none) (cond (Nat.beq pc 125) (some (.aload_n 0, 126, 0, 0, 0, 0)) none)) (cond (Nat.beq pc 124) (some (.iastore, 125, 0, 0, 0, 0)) none)) (cond (Nat.ble 123 pc) (cond (Nat.beq pc 123) (some (.iload_n 2, 124, 0, 0, 0, 0)) none) (cond (Nat.beq pc 120) (some (.getfield 167, 123, 11, 15, 990, 0)) none))) (cond (Nat.ble 115 pc) (cond (Nat.ble 116 pc) (cond (Nat.ble 119 pc) (cond (Nat.beq pc 119) (some (.aload_n 0, 120, 0, 0, 0, 0)) none) (cond (Nat.beq pc 116) (some (.getfield 35, 119, 11, 20, 995, 0)) none)) (cond (Nat.beq pc 115) (some (.aload_n 0, 116, 0, 0, 0, 0)) none)) (cond (Nat.ble 114 pc) (cond (Nat.beq pc 114) (some (.iastore, 115, 0, 0, 0, 0)) none) (cond (Nat.beq pc 113) (some (.iload_n 1, 114, 0, 0, 0, 0)) none))))) (cond (Nat.ble 93 pc) (cond (Nat.ble 102 pc) (cond (Nat.ble 106 pc) (cond (Nat.ble 109 pc) (cond (Nat.ble 110 pc) (cond (Nat.beq pc 110) (some (.getfield 167, 113, 11, 15, 990, 0)) none) (cond (Nat.beq pc 109) (some (.aload_n 0, 110, 0, 0, 0, 0)) none)) (cond (Nat.beq pc 106) (some (.getfield 31, 109, 11, 19, 994, 0)) none)) (cond (Nat.ble 104 pc) (cond (Nat.ble 105 pc) (cond (Nat.beq pc 105) (some (.aload_n 0, 106, 0, 0, 0, 0)) none) (cond (Nat.beq pc 104) (some (.lastore, 105, 0, 0, 0, 0)) none)) (cond (Nat.beq pc 102) (some (.lload 4, 104, 0, 0, 0, 0)) none))) (cond (Nat.ble 95 pc) (cond (Nat.ble 98 pc) (cond (Nat.ble 99 pc) (cond (Nat.beq pc 99) (some (.getfield 167, 102, 11, 15, 990, 0)) none) (cond (Nat.beq pc 98) (some (.aload_n 0, 99, 0, 0, 0, 0)) none)) (cond (Nat.beq pc 95) (some (.getfield 24, 98, 11, 17, 992, 0)) none)) (cond (Nat.ble 94 pc) (cond (Nat.beq pc 94) (some (.aload_n 0, 95, 0, 0, 0, 0)) none) (cond (Nat.beq pc 93) (some (.ireturn, 94, 0, 0, 0, 0)) none)))) (cond (Nat.ble 83 pc) (cond (Nat.ble 88 pc) (cond (Nat.ble 89 pc) (cond (Nat.ble 90 pc) (cond (Nat.beq pc 90) (some (.invokevirtual 173, 93, 133, 0, 1135, 0)) none) (cond (Nat.beq pc 89) (some (.iconst 3, 90, 0, 0, 0, 0)) none)) (cond (Nat.beq pc 88) (some (.aload_n 0, 89, 0, 0, 0, 0)) none)) (cond (Nat.ble 85 pc) (cond (Nat.beq pc 85) (some (.if_icmp .ne 9, 88, 94, 0, 0, 0)) none) (cond (Nat.beq pc 83) (some (.bipush 30, 85, 0, 0, 0, 0)) none))) (cond (Nat.ble 78 pc) (cond (Nat.ble 79 pc) (cond (Nat.ble 80 pc) (cond (Nat.beq pc 80) (some (.getfield 167, 83, 11, 15, 990, 0)) none) (cond (Nat.beq pc 79) (some (.aload_n 0, 80, 0, 0, 0, 0)) none)) (cond (Nat.beq pc 78) (some (.ireturn, 79, 0, 0, 0, 0)) none)) (cond (Nat.ble 75 pc) (cond (Nat.beq pc 75) (some (.invokevirtual 173, 78, 133, 0, 1135, 0)) none) (cond (Nat.beq pc 74) (some (.iconst 5, 75, 0, 0, 0, 0)) none)))))) (cond (Nat.ble 38 pc) (cond (Nat.ble 54 pc) (cond (Nat.ble 63 pc) (cond (Nat.ble 67 pc) (cond (Nat.ble 70 pc) (cond (Nat.ble 73 pc) (cond (Nat.beq pc 73) (some (.aload_n 0, 74, 0, 0, 0, 0)) none) (cond (Nat.beq pc 70) (some (.ifCond .lt 9, 73, 79, 0, 0, 0)) none)) (cond (Nat.beq pc 67) (some (.invokevirtual 189, 70, 141, 0, 1166, 0)) none)) (cond (Nat.ble 64 pc) (cond (Nat.ble 65 pc) (cond (Nat.beq pc 65) (some (.lload 4, 67, 0, 0, 0, 0)) none) (cond (Nat.beq pc 64) (some (.aload_n 0, 65, 0, 0, 0, 0)) none)) (cond (Nat.beq pc 63) (some (.ireturn, 64, 0, 0, 0, 0)) none))) (cond (Nat.ble 58 pc) (cond (Nat.ble 59 pc) (cond (Nat.ble 60 pc) (cond (Nat.beq pc 60) (some (.invokevirtual 173, 63, 133, 0, 1135, 0)) none) (cond (Nat.beq pc 59) (some (.iconst 2, 60, 0, 0, 0, 0)) none)) (cond (Nat.beq pc 58) (some (.aload_n 0, 59, 0, 0, 0, 0)) none)) (cond (Nat.ble 55 pc) (cond (Nat.beq pc 55) (some (.ifCond .ne 9, 58, 64, 0, 0, 0)) none) (cond (Nat.beq pc 54) (some (.lcmp, 55, 0, 0, 0, 0)) none)))) (cond (Nat.ble 45 pc) (cond (Nat.ble 49 pc) (cond (Nat.ble 51 pc) (cond (Nat.ble 53 pc) (cond (Nat.beq pc 53) (some (.lconst 0, 54, 0, 0, 0, 0)) none) (cond (Nat.beq pc 51) (some (.lload 4, 53, 0, 0, 0, 0)) none)) (cond (Nat.beq pc 49) (some (.lstore 4, 51, 0, 0, 0, 0)) none)) (cond (Nat.ble 46 pc) (cond (Nat.beq pc 46) (some (.invokevirtual 185, 49, 139, 0, 1158, 0)) none) (cond (Nat.beq pc 45) (some (.iload_n 3, 46, 0, 0, 0, 0)) none))) (cond (Nat.ble 40 pc) (cond (Nat.ble 43 pc) (cond (Nat.ble 44 pc) (cond (Nat.beq pc 44) (some (.aload_n 0, 45, 0, 0, 0, 0)) none) (cond (Nat.beq pc 43) (some (.ireturn, 44, 0, 0, 0, 0)) none)) (cond (Nat.beq pc 40) (some (.invokevirtual 173, 43, 133, 0, 1135, 0)) none)) (cond (Nat.ble 39 pc) (cond (Nat.beq pc 39) (some (.iconst 2, 40, 0, 0, 0, 0)) none) (cond (Nat.beq pc 38) (some (.aload_n 0, 39, 0, 0, 0, 0)) none))))) (cond (Nat.ble 18 pc) (cond (Nat.ble 27 pc) (cond (Nat.ble 31 pc) (cond (Nat.ble 32 pc) (cond (Nat.ble 35 pc) (cond (Nat.beq pc 35) (some (.ifCond .ne 9, 38, 44, 0, 0, 0)) none) (cond (Nat.beq pc 32) (some (.invokevirtual 182, 35, 138, 0, 1154, 0)) none)) (cond (Nat.beq pc 31) (some (.iload_n 3, 32, 0, 0, 0, 0)) none)) (cond (Nat.ble 30 pc) (cond (Nat.beq pc 30) (some (.aload_n 0, 31, 0, 0, 0, 0)) none) (cond (Nat.beq pc 27) (some (.ifCond .eq 11, 30, 38, 0, 0, 0)) none))) (cond (Nat.ble 20 pc) (cond (Nat.ble 21 pc) (cond (Nat.ble 24 pc) (cond (Nat.beq pc 24) (some (.invokestatic 160, 27, 137, 0, 1151, 0)) none) (cond (Nat.beq pc 21) (some (.sipush 200, 24, 0, 0, 0, 0)) none)) (cond (Nat.beq pc 20) (some (.iconst 0, 21, 0, 0, 0, 0)) none)) (cond (Nat.ble 19 pc) (cond (Nat.beq pc 19) (some (.iload_n 2, 20, 0, 0, 0, 0)) none) (cond (Nat.beq pc 18) (some (.ireturn, 19, 0, 0, 0, 0)) none)))) (cond (Nat.ble 7 pc) (cond (Nat.ble 13 pc) (cond (Nat.ble 14 pc) (cond (Nat.ble 15 pc) (cond (Nat.beq pc 15) (some (.invokevirtual 173, 18, 133, 0, 1135, 0)) none) (cond (Nat.beq pc 14) (some (.iconst 1, 15, 0, 0, 0, 0)) none)) (cond (Nat.beq pc 13) (some (.aload_n 0, 14, 0, 0, 0, 0)) none)) (cond (Nat.ble 10 pc) (cond (Nat.beq pc 10) (some (.ifCond .ne 9, 13, 19, 0, 0, 0)) none) (cond (Nat.beq pc 7) (some (.invokevirtual 179, 10, 136, 0, 1147, 0)) none))) (cond (Nat.ble 2 pc) (cond (Nat.ble 5 pc) (cond (Nat.ble 6 pc) (cond (Nat.beq pc 6) (some (.iload_n 1, 7, 0, 0, 0, 0)) none) (cond (Nat.beq pc 5) (some (.aload_n 0, 6, 0, 0, 0, 0)) none)) (cond (Nat.beq pc 2) (some (.putfield 95, 5, 11, 0, 975, 0)) none)) (cond (Nat.ble 1 pc) (cond (Nat.beq pc 1) (some (.iconst 0, 2, 0, 0, 0, 0)) none) (cond (Nat.beq pc 0) (some (.aload_n 0, 1, 0, 0, 0, 0)) none)))))))
def rc_136 (pc : Nat) : Option RI := cond (Nat.ble 18 pc) none (cond (Nat.ble 9 pc) (cond (Nat.ble 13 pc) (cond (Nat.ble 16 pc) (cond (Nat.ble 17 pc) (cond (Nat.beq pc 17) (some (.ireturn, 18, 0, 0, 0, 0)) none) (cond (Nat.beq pc 16) (some (.iconst 0, 17, 0, 0, 0, 0)) none)) (cond (Nat.beq pc 13) (some (.goto 4, 16, 17, 0, 0, 0)) none)) (cond (Nat.ble 12 pc) (cond (Nat.beq pc 12) (some (.iconst 1, 13, 0, 0, 0, 0)) none) (cond (Nat.beq pc 9) (some (.if_icmp .ge 7, 12, 16, 0, 0, 0)) none))) (cond (Nat.ble 4 pc) (cond (Nat.ble 5 pc) (cond (Nat.ble 6 pc) (cond (Nat.beq pc 6) (some (.getfield 164, 9, 11, 14, 989, 0)) none) (cond (Nat.beq pc 5) (some (.aload_n 0, 6, 0, 0, 0, 0)) none)) (cond (Nat.beq pc 4) (some (.iload_n 1, 5, 0, 0, 0, 0)) none)) (cond (Nat.ble 1 pc) (cond (Nat.beq pc 1) (some (.ifCond .lt 15, 4, 16, 0, 0, 0)) none) (cond (Nat.beq pc 0) (some (.iload_n 1, 1, 0, 0, 0, 0)) none))))
def rc_137 (pc : Nat) : Option RI := cond (Nat.ble 16 pc) none (cond (Nat.ble 7 pc) (cond (Nat.ble 11 pc) (cond (Nat.ble 14 pc) (cond (Nat.ble 15 pc) (cond (Nat.beq pc 15) (some (.ireturn, 16, 0, 0, 0, 0)) none) (cond (Nat.beq pc 14) (some (.iconst 0, 15, 0, 0, 0, 0)) none)) (cond (Nat.beq pc 11) (some (.goto 4, 14, 15, 0, 0, 0)) none)) (cond (Nat.ble 10 pc) (cond (Nat.beq pc 10) (some (.iconst 1, 11, 0, 0, 0, 0)) none) (cond (Nat.beq pc 7) (some (.if_icmp .gt 7, 10, 14, 0, 0, 0)) none))) (cond (Nat.ble 2 pc) (cond (Nat.ble 5 pc) (cond (Nat.ble 6 pc) (cond (Nat.beq pc 6) (some (.iload_n 2, 7, 0, 0, 0, 0)) none) (cond (Nat.beq pc 5) (some (.iload_n 0, 6, 0, 0, 0, 0)) none)) (cond (Nat.beq pc 2) (some (.if_icmp .lt 12, 5, 14, 0, 0, 0)) none)) (cond (Nat.ble 1 pc) (cond (Nat.beq pc 1) (some (.iload_n 1, 2, 0, 0, 0, 0)) none) (cond (Nat.beq pc 0) (some (.iload_n 0, 1, 0, 0, 0, 0)) none))))
def rc_138 (pc : Nat) : Option RI := cond (Nat.ble 18 pc) none (cond (Nat.ble 9 pc) (cond (Nat.ble 13 pc) (cond (Nat.ble 16 pc) (cond (Nat.ble 17 pc) (cond (Nat.beq pc 17) (some (.ireturn, 18, 0, 0, 0, 0)) none) (cond (Nat.beq pc 16) (some (.iconst 0, 17, 0, 0, 0, 0)) none)) (cond (Nat.beq pc 13) (some (.goto 4, 16, 17, 0, 0, 0)) none)) (cond (Nat.ble 12 pc) (cond (Nat.beq pc 12) (some (.iconst 1, 13, 0, 0, 0, 0)) none) (cond (Nat.beq pc 9) (some (.if_icmp .gt 7, 12, 16, 0, 0, 0)) none))) (cond (Nat.ble 4 pc) (cond (Nat.ble 5 pc) (cond (Nat.ble 6 pc) (cond (Nat.beq pc 6) (some (.getfield 150, 9, 11, 6, 981, 0)) none) (cond (Nat.beq pc 5) (some (.aload_n 0, 6, 0, 0, 0, 0)) none)) (cond (Nat.beq pc 4) (some (.iload_n 1, 5, 0, 0, 0, 0)) none)) (cond (Nat.ble 1 pc) (cond (Nat.beq pc 1) (some (.ifCond .lt 15, 4, 16, 0, 0, 0)) none) (cond (Nat.beq pc 0) (some (.iload_n 1, 1, 0, 0, 0, 0)) none))))
def rc_139 (pc : Nat) : Option RI := cond (Nat.ble 75 pc) none (cond (Nat.ble 38 pc) (cond (Nat.ble 55 pc) (cond (Nat.ble 65 pc) (cond (Nat.ble 70 pc) (cond (Nat.ble 73 pc) (cond (Nat.ble 74 pc) (cond (Nat.beq pc 74) (some (.lreturn, 75, 0, 0, 0, 0)) none) (cond (Nat.beq pc 73) (some (.lconst 0, 74, 0, 0, 0, 0)) none)) (cond (Nat.beq pc 70) (some (.goto 4, 73, 74, 0, 0, 0)) none)) (cond (Nat.ble 66 pc) (cond (Nat.ble 69 pc) (cond (Nat.beq pc 69) (some (.lload_n 3, 70, 0, 0, 0, 0)) none) (cond (Nat.beq pc 66) (some (.ifCond .eq 7, 69, 73, 0, 0, 0)) none)) (cond (Nat.beq pc 65) (some (.iload_n 2, 66, 0, 0, 0, 0)) none))) (cond (Nat.ble 58 pc) (cond (Nat.ble 59 pc) (cond (Nat.ble 62 pc) (cond (Nat.beq pc 62) (some (.goto (-44), 65, 18, 0, 0, 0)) none) (cond (Nat.beq pc 59) (some (.iinc 5 1, 62, 0, 0, 0, 0)) none)) (cond (Nat.beq pc 58) (some (.lstore_n 3, 59, 0, 0, 0, 0)) none)) (cond (Nat.ble 56 pc) (cond (Nat.ble 57 pc) (cond (Nat.beq pc 57) (some (.ladd, 58, 0, 0, 0, 0)) none) (cond (Nat.beq pc 56) (some (.i2l, 57, 0, 0, 0, 0)) none)) (cond (Nat.beq pc 55) (some (.iadd, 56, 0, 0, 0, 0)) none)))) (cond (Nat.ble 45 pc) (cond (Nat.ble 51 pc) (cond (Nat.ble 53 pc) (cond (Nat.ble 54 pc) (cond (Nat.beq pc 54) (some (.iconst 1, 55, 0, 0, 0, 0)) none) (cond (Nat.beq pc 53) (some (.isub, 54, 0, 0, 0, 0)) none)) (cond (Nat.beq pc 51) (some (.bipush 97, 53, 0, 0, 0, 0)) none)) (cond (Nat.ble 48 pc) (cond (Nat.ble 50 pc) (cond (Nat.beq pc 50) (some (.baload, 51, 0, 0, 0, 0)) none) (cond (Nat.beq pc 48) (some (.iload 5, 50, 0, 0, 0, 0)) none)) (cond (Nat.beq pc 45) (some (.getfield 20, 48, 11, 5, 980, 0)) none))) (cond (Nat.ble 42 pc) (cond (Nat.ble 43 pc) (cond (Nat.ble 44 pc) (cond (Nat.beq pc 44) (some (.aload_n 0, 45, 0, 0, 0, 0)) none) (cond (Nat.beq pc 43) (some (.lmul, 44, 0, 0, 0, 0)) none)) (cond (Nat.beq pc 42) (some (.lload_n 3, 43, 0, 0, 0, 0)) none)) (cond (Nat.ble 39 pc) (cond (Nat.beq pc 39) (some (.ldc2_w 116, 42, 0, 0, 1165, 32)) none) (cond (Nat.beq pc 38) (some (.istore_n 2, 39, 0, 0, 0, 0)) none))))) (cond (Nat.ble 16 pc) (cond (Nat.ble 25 pc) (cond (Nat.ble 32 pc) (cond (Nat.ble 34 pc) (cond (Nat.ble 35 pc) (cond (Nat.beq pc 35) (some (.invokestatic 136, 38, 140, 0, 1162, 0)) none) (cond (Nat.beq pc 34) (some (.baload, 35, 0, 0, 0, 0)) none)) (cond (Nat.beq pc 32) (some (.iload 5, 34, 0, 0, 0, 0)) none)) (cond (Nat.ble 28 pc) (cond (Nat.ble 29 pc) (cond (Nat.beq pc 29) (some (.getfield 20, 32, 11, 5, 980, 0)) none) (cond (Nat.beq pc 28) (some (.aload_n 0, 29, 0, 0, 0, 0)) none)) (cond (Nat.beq pc 25) (some (.ifCond .eq 40, 28, 65, 0, 0, 0)) none))) (cond (Nat.ble 20 pc) (cond (Nat.ble 21 pc) (cond (Nat.ble 24 pc) (cond (Nat.beq pc 24) (some (.iload_n 2, 25, 0, 0, 0, 0)) none) (cond (Nat.beq pc 21) (some (.if_icmp .ge 44, 24, 65, 0, 0, 0)) none)) (cond (Nat.beq pc 20) (some (.iload_n 1, 21, 0, 0, 0, 0)) none)) (cond (Nat.ble 18 pc) (cond (Nat.beq pc 18) (some (.iload 5, 20, 0, 0, 0, 0)) none) (cond (Nat.beq pc 16) (some (.istore 5, 18, 0, 0, 0, 0)) none)))) (cond (Nat.ble 7 pc) (cond (Nat.ble 13 pc) (cond (Nat.ble 14 pc) (cond (Nat.ble 15 pc) (cond (Nat.beq pc 15) (some (.iconst 0, 16, 0, 0, 0, 0)) none) (cond (Nat.beq pc 14) (some (.lstore_n 3, 15, 0, 0, 0, 0)) none)) (cond (Nat.beq pc 13) (some (.lconst 0, 14, 0, 0, 0, 0)) none)) (cond (Nat.ble 9 pc) (cond (Nat.ble 12 pc) (cond (Nat.beq pc 12) (some (.istore_n 2, 13, 0, 0, 0, 0)) none) (cond (Nat.beq pc 9) (some (.invokestatic 160, 12, 137, 0, 1151, 0)) none)) (cond (Nat.beq pc 7) (some (.bipush 10, 9, 0, 0, 0, 0)) none))) (cond (Nat.ble 2 pc) (cond (Nat.ble 5 pc) (cond (Nat.ble 6 pc) (cond (Nat.beq pc 6) (some (.iconst 1, 7, 0, 0, 0, 0)) none) (cond (Nat.beq pc 5) (some (.iload_n 1, 6, 0, 0, 0, 0)) none)) (cond (Nat.beq pc 2) (some (.putfield 150, 5, 11, 6, 981, 0)) none)) (cond (Nat.ble 1 pc) (cond (Nat.beq pc 1) (some (.iconst 0, 2, 0, 0, 0, 0)) none) (cond (Nat.beq pc 0) (some (.aload_n 0, 1, 0, 0, 0, 0)) none))))))
def rc_140 (pc : Nat) : Option RI := cond (Nat.ble 18 pc) none (cond (Nat.ble 9 pc) (cond (Nat.ble 13 pc) (cond (Nat.ble 16 pc) (cond (Nat.ble 17 pc) (cond (Nat.beq pc 17) (some (.ireturn, 18, 0, 0, 0, 0)) none) (cond (Nat.beq pc 16) (some (.iconst 0, 17, 0, 0, 0, 0)) none)) (cond (Nat.beq pc 13) (some (.goto 4, 16, 17, 0, 0, 0)) none)) (cond (Nat.ble 12 pc) (cond (Nat.beq pc 12) (some (.iconst 1, 13, 0, 0, 0, 0)) none) (cond (Nat.beq pc 9) (some (.if_icmp .gt 7, 12, 16, 0, 0, 0)) none))) (cond (Nat.ble 3 pc) (cond (Nat.ble 6 pc) (cond (Nat.ble 7 pc) (cond (Nat.beq pc 7) (some (.bipush 122, 9, 0, 0, 0, 0)) none) (cond (Nat.beq pc 6) (some (.iload_n 0, 7, 0, 0, 0, 0)) none)) (cond (Nat.beq pc 3) (some (.if_icmp .lt 13, 6, 16, 0, 0, 0)) none)) (cond (Nat.ble 1 pc) (cond (Nat.beq pc 1) (some (.bipush 97, 3, 0, 0, 0, 0)) none) (cond (Nat.beq pc 0) (some (.iload_n 0, 1, 0, 0, 0, 0)) none))))
def rc_141 (pc : Nat) : Option RI := cond (Nat.ble 42 pc) none (cond (Nat.ble 17 pc) (cond (Nat.ble 29 pc) (cond (Nat.ble 36 pc) (cond (Nat.ble 39 pc) (cond (Nat.ble 41 pc) (cond (Nat.beq pc 41) (some (.ireturn, 42, 0, 0, 0, 0)) none) (cond (Nat.beq pc 39) (some (.bipush (-2), 41, 0, 0, 0, 0)) none)) (cond (Nat.beq pc 36) (some (.goto 5, 39, 41, 0, 0, 0)) none)) (cond (Nat.ble 32 pc) (cond (Nat.ble 35 pc) (cond (Nat.beq pc 35) (some (.iload_n 3, 36, 0, 0, 0, 0)) none) (cond (Nat.beq pc 32) (some (.if_icmp .ge 7, 35, 39, 0, 0, 0)) none)) (cond (Nat.beq pc 29) (some (.getfield 167, 32, 11, 15, 990, 0)) none))) (cond (Nat.ble 24 pc) (cond (Nat.ble 27 pc) (cond (Nat.ble 28 pc) (cond (Nat.beq pc 28) (some (.aload_n 0, 29, 0, 0, 0, 0)) none) (cond (Nat.beq pc 27) (some (.iload_n 3, 28, 0, 0, 0, 0)) none)) (cond (Nat.beq pc 24) (some (.goto (-22), 27, 2, 0, 0, 0)) none)) (cond (Nat.ble 18 pc) (cond (Nat.ble 21 pc) (cond (Nat.beq pc 21) (some (.iinc 3 1, 24, 0, 0, 0, 0)) none) (cond (Nat.beq pc 18) (some (.ifCond .eq 9, 21, 27, 0, 0, 0)) none)) (cond (Nat.beq pc 17) (some (.lcmp, 18, 0, 0, 0, 0)) none)))) (cond (Nat.ble 7 pc) (cond (Nat.ble 14 pc) (cond (Nat.ble 15 pc) (cond (Nat.ble 16 pc) (cond (Nat.beq pc 16) (some (.lload_n 1, 17, 0, 0, 0, 0)) none) (cond (Nat.beq pc 15) (some (.laload, 16, 0, 0, 0, 0)) none)) (cond (Nat.beq pc 14) (some (.iload_n 3, 15, 0, 0, 0, 0)) none)) (cond (Nat.ble 10 pc) (cond (Nat.ble 11 pc) (cond (Nat.beq pc 11) (some (.getfield 24, 14, 11, 17, 992, 0)) none) (cond (Nat.beq pc 10) (some (.aload_n 0, 11, 0, 0, 0, 0)) none)) (cond (Nat.beq pc 7) (some (.if_icmp .ge 20, 10, 27, 0, 0, 0)) none))) (cond (Nat.ble 2 pc) (cond (Nat.ble 3 pc) (cond (Nat.ble 4 pc) (cond (Nat.beq pc 4) (some (.getfield 167, 7, 11, 15, 990, 0)) none) (cond (Nat.beq pc 3) (some (.aload_n 0, 4, 0, 0, 0, 0)) none)) (cond (Nat.beq pc 2) (some (.iload_n 3, 3, 0, 0, 0, 0)) none)) (cond (Nat.ble 1 pc) (cond (Nat.beq pc 1) (some (.istore_n 3, 2, 0, 0, 0, 0)) none) (cond (Nat.beq pc 0) (some (.iconst 0, 1, 0, 0, 0, 0)) none)))))
def rc_142 (pc : Nat) : Option RI := cond (Nat.ble 126 pc) none (cond (Nat.ble 61 pc) (cond (Nat.ble 95 pc) (cond (Nat.ble 110 pc) (cond (Nat.ble 117 pc) (cond (Nat.ble 121 pc) (cond (Nat.ble 122 pc) (cond (Nat.ble 125 pc) (cond (Nat.beq pc 125) (some (.ireturn, 126, 0, 0, 0, 0)) none) (cond (Nat.beq pc 122) (some (.invokevirtual 176, 125, 134, 0, 1139, 0)) none)) (cond (Nat.beq pc 121) (some (.isub, 122, 0, 0, 0, 0)) none)) (cond (Nat.ble 120 pc) (cond (Nat.beq pc 120) (some (.iconst 1, 121, 0, 0, 0, 0)) none) (cond (Nat.beq pc 117) (some (.getfield 170, 120, 11, 16, 991, 0)) none))) (cond (Nat.ble 112 pc) (cond (Nat.ble 115 pc) (cond (Nat.ble 116 pc) (cond (Nat.beq pc 116) (some (.aload_n 0, 117, 0, 0, 0, 0)) none) (cond (Nat.beq pc 115) (some (.aload_n 0, 116, 0, 0, 0, 0)) none)) (cond (Nat.beq pc 112) (some (.putfield 170, 115, 11, 16, 991, 0)) none)) (cond (Nat.ble 111 pc) (cond (Nat.beq pc 111) (some (.iadd, 112, 0, 0, 0, 0)) none) (cond (Nat.beq pc 110) (some (.iconst 1, 111, 0, 0, 0, 0)) none)))) (cond (Nat.ble 103 pc) (cond (Nat.ble 105 pc) (cond (Nat.ble 106 pc) (cond (Nat.ble 107 pc) (cond (Nat.beq pc 107) (some (.getfield 170, 110, 11, 16, 991, 0)) none) (cond (Nat.beq pc 106) (some (.dup, 107, 0, 0, 0, 0)) none)) (cond (Nat.beq pc 105) (some (.aload_n 0, 106, 0, 0, 0, 0)) none)) (cond (Nat.ble 104 pc) (cond (Nat.beq pc 104) (some (.iastore, 105, 0, 0, 0, 0)) none) (cond (Nat.beq pc 103) (some (.iload_n 1, 104, 0, 0, 0, 0)) none))) (cond (Nat.ble 99 pc) (cond (Nat.ble 100 pc) (cond (Nat.beq pc 100) (some (.getfield 170, 103, 11, 16, 991, 0)) none) (cond (Nat.beq pc 99) (some (.aload_n 0, 100, 0, 0, 0, 0)) none)) (cond (Nat.ble 96 pc) (cond (Nat.beq pc 96) (some (.getfield 38, 99, 11, 21, 996, 0)) none) (cond (Nat.beq pc 95) (some (.aload_n 0, 96, 0, 0, 0, 0)) none))))) (cond (Nat.ble 79 pc) (cond (Nat.ble 86 pc) (cond (Nat.ble 90 pc) (cond (Nat.ble 93 pc) (cond (Nat.ble 94 pc) (cond (Nat.beq pc 94) (some (.lastore, 95, 0, 0, 0, 0)) none) (cond (Nat.beq pc 93) (some (.lload_n 3, 94, 0, 0, 0, 0)) none)) (cond (Nat.beq pc 90) (some (.getfield 170, 93, 11, 16, 991, 0)) none)) (cond (Nat.ble 89 pc) (cond (Nat.beq pc 89) (some (.aload_n 0, 90, 0, 0, 0, 0)) none) (cond (Nat.beq pc 86) (some (.getfield 28, 89, 11, 18, 993, 0)) none))) (cond (Nat.ble 81 pc) (cond (Nat.ble 84 pc) (cond (Nat.ble 85 pc) (cond (Nat.beq pc 85) (some (.aload_n 0, 86, 0, 0, 0, 0)) none) (cond (Nat.beq pc 84) (some (.ireturn, 85, 0, 0, 0, 0)) none)) (cond (Nat.beq pc 81) (some (.invokevirtual 173, 84, 133, 0, 1135, 0)) none)) (cond (Nat.ble 80 pc) (cond (Nat.beq pc 80) (some (.iconst 3, 81, 0, 0, 0, 0)) none) (cond (Nat.beq pc 79) (some (.aload_n 0, 80, 0, 0, 0, 0)) none)))) (cond (Nat.ble 69 pc) (cond (Nat.ble 71 pc) (cond (Nat.ble 74 pc) (cond (Nat.ble 76 pc) (cond (Nat.beq pc 76) (some (.if_icmp .ne 9, 79, 85, 0, 0, 0)) none) (cond (Nat.beq pc 74) (some (.bipush 16, 76, 0, 0, 0, 0)) none)) (cond (Nat.beq pc 71) (some (.getfield 170, 74, 11, 16, 991, 0)) none)) (cond (Nat.ble 70 pc) (cond (Nat.beq pc 70) (some (.aload_n 0, 71, 0, 0, 0, 0)) none) (cond (Nat.beq pc 69) (some (.ireturn, 70, 0, 0, 0, 0)) none))) (cond (Nat.ble 65 pc) (cond (Nat.ble 66 pc) (cond (Nat.beq pc 66) (some (.invokevirtual 173, 69, 133, 0, 1135, 0)) none) (cond (Nat.beq pc 65) (some (.iconst 5, 66, 0, 0, 0, 0)) none)) (cond (Nat.ble 64 pc) (cond (Nat.beq pc 64) (some (.aload_n 0, 65, 0, 0, 0, 0)) none) (cond (Nat.beq pc 61) (some (.ifCond .lt 9, 64, 70, 0, 0, 0)) none)))))) (cond (Nat.ble 32 pc) (cond (Nat.ble 45 pc) (cond (Nat.ble 52 pc) (cond (Nat.ble 56 pc) (cond (Nat.ble 57 pc) (cond (Nat.ble 58 pc) (cond (Nat.beq pc 58) (some (.invokevirtual 196, 61, 144, 0, 1178, 0)) none) (cond (Nat.beq pc 57) (some (.lload_n 3, 58, 0, 0, 0, 0)) none)) (cond (Nat.beq pc 56) (some (.aload_n 0, 57, 0, 0, 0, 0)) none)) (cond (Nat.ble 55 pc) (cond (Nat.beq pc 55) (some (.ireturn, 56, 0, 0, 0, 0)) none) (cond (Nat.beq pc 52) (some (.invokevirtual 173, 55, 133, 0, 1135, 0)) none))) (cond (Nat.ble 47 pc) (cond (Nat.ble 50 pc) (cond (Nat.ble 51 pc) (cond (Nat.beq pc 51) (some (.iconst 2, 52, 0, 0, 0, 0)) none) (cond (Nat.beq pc 50) (some (.aload_n 0, 51, 0, 0, 0, 0)) none)) (cond (Nat.beq pc 47) (some (.ifCond .ne 9, 50, 56, 0, 0, 0)) none)) (cond (Nat.ble 46 pc) (cond (Nat.beq pc 46) (some (.lcmp, 47, 0, 0, 0, 0)) none) (cond (Nat.beq pc 45) (some (.lconst 0, 46, 0, 0, 0, 0)) none)))) (cond (Nat.ble 38 pc) (cond (Nat.ble 40 pc) (cond (Nat.ble 43 pc) (cond (Nat.ble 44 pc) (cond (Nat.beq pc 44) (some (.lload_n 3, 45, 0, 0, 0, 0)) none) (cond (Nat.beq pc 43) (some (.lstore_n 3, 44, 0, 0, 0, 0)) none)) (cond (Nat.beq pc 40) (some (.invokevirtual 185, 43, 139, 0, 1158, 0)) none)) (cond (Nat.ble 39 pc) (cond (Nat.beq pc 39) (some (.iload_n 2, 40, 0, 0, 0, 0)) none) (cond (Nat.beq pc 38) (some (.aload_n 0, 39, 0, 0, 0, 0)) none))) (cond (Nat.ble 34 pc) (cond (Nat.ble 37 pc) (cond (Nat.beq pc 37) (some (.ireturn, 38, 0, 0, 0, 0)) none) (cond (Nat.beq pc 34) (some (.invokevirtual 173, 37, 133, 0, 1135, 0)) none)) (cond (Nat.ble 33 pc) (cond (Nat.beq pc 33) (some (.iconst 2, 34, 0, 0, 0, 0)) none) (cond (Nat.beq pc 32) (some (.aload_n 0, 33, 0, 0, 0, 0)) none))))) (cond (Nat.ble 15 pc) (cond (Nat.ble 23 pc) (cond (Nat.ble 25 pc) (cond (Nat.ble 26 pc) (cond (Nat.ble 29 pc) (cond (Nat.beq pc 29) (some (.ifCond .ne 9, 32, 38, 0, 0, 0)) none) (cond (Nat.beq pc 26) (some (.invokevirtual 182, 29, 138, 0, 1154, 0)) none)) (cond (Nat.beq pc 25) (some (.iload_n 2, 26, 0, 0, 0, 0)) none)) (cond (Nat.ble 24 pc) (cond (Nat.beq pc 24) (some (.aload_n 0, 25, 0, 0, 0, 0)) none) (cond (Nat.beq pc 23) (some (.ireturn, 24, 0, 0, 0, 0)) none))) (cond (Nat.ble 19 pc) (cond (Nat.ble 20 pc) (cond (Nat.beq pc 20) (some (.invokevirtual 173, 23, 133, 0, 1135, 0)) none) (cond (Nat.beq pc 19) (some (.iconst 1, 20, 0, 0, 0, 0)) none)) (cond (Nat.ble 18 pc) (cond (Nat.beq pc 18) (some (.aload_n 0, 19, 0, 0, 0, 0)) none) (cond (Nat.beq pc 15) (some (.ifCond .ne 9, 18, 24, 0, 0, 0)) none)))) (cond (Nat.ble 6 pc) (cond (Nat.ble 10 pc) (cond (Nat.ble 11 pc) (cond (Nat.ble 12 pc) (cond (Nat.beq pc 12) (some (.invokevirtual 193, 15, 143, 0, 1174, 0)) none) (cond (Nat.beq pc 11) (some (.iload_n 1, 12, 0, 0, 0, 0)) none)) (cond (Nat.beq pc 10) (some (.aload_n 0, 11, 0, 0, 0, 0)) none)) (cond (Nat.ble 7 pc) (cond (Nat.beq pc 7) (some (.if_icmp .eq 17, 10, 24, 0, 0, 0)) none) (cond (Nat.beq pc 6) (some (.iconst (-1), 7, 0, 0, 0, 0)) none))) (cond (Nat.ble 2 pc) (cond (Nat.ble 5 pc) (cond (Nat.beq pc 5) (some (.iload_n 1, 6, 0, 0, 0, 0)) none) (cond (Nat.beq pc 2) (some (.putfield 95, 5, 11, 0, 975, 0)) none)) (cond (Nat.ble 1 pc) (cond (Nat.beq pc 1) (some (.iconst 0, 2, 0, 0, 0, 0)) none) (cond (Nat.beq pc 0) (some (.aload_n 0, 1, 0, 0, 0, 0)) none)))))))
def rc_143 (pc : Nat) : Option RI := cond (Nat.ble 18 pc) none (cond (Nat.ble 9 pc) (cond (Nat.ble 13 pc) (cond (Nat.ble 16 pc) (cond (Nat.ble 17 pc) (cond (Nat.beq pc 17) (some (.ireturn, 18, 0, 0, 0, 0)) none) (cond (Nat.beq pc 16) (some (.iconst 0, 17, 0, 0, 0, 0)) none)) (cond (Nat.beq pc 13) (some (.goto 4, 16, 17, 0, 0, 0)) none)) (cond (Nat.ble 12 pc) (cond (Nat.beq pc 12) (some (.iconst 1, 13, 0, 0, 0, 0)) none) (cond (Nat.beq pc 9) (some (.if_icmp .ge 7, 12, 16, 0, 0, 0)) none))) (cond (Nat.ble 4 pc) (cond (Nat.ble 5 pc) (cond (Nat.ble 6 pc) (cond (Nat.beq pc 6) (some (.getfield 170, 9, 11, 16, 991, 0)) none) (cond (Nat.beq pc 5) (some (.aload_n 0, 6, 0, 0, 0, 0)) none)) (cond (Nat.beq pc 4) (some (.iload_n 1, 5, 0, 0, 0, 0)) none)) (cond (Nat.ble 1 pc) (cond (Nat.beq pc 1) (some (.ifCond .lt 15, 4, 16, 0, 0, 0)) none) (cond (Nat.beq pc 0) (some (.iload_n 1, 1, 0, 0, 0, 0)) none))))
def rc_144 (pc : Nat) : Option RI := cond (Nat.ble 42 pc) none (cond (Nat.ble 17 pc) (cond (Nat.ble 29 pc) (cond (Nat.ble 36 pc) (cond (Nat.ble 39 pc) (cond (Nat.ble 41 pc) (cond (Nat.beq pc 41) (some (.ireturn, 42, 0, 0, 0, 0)) none) (cond (Nat.beq pc 39) (some (.bipush (-2), 41, 0, 0, 0, 0)) none)) (cond (Nat.beq pc 36) (some (.goto 5, 39, 41, 0, 0, 0)) none)) (cond (Nat.ble 32 pc) (cond (Nat.ble 35 pc) (cond (Nat.beq pc 35) (some (.iload_n 3, 36, 0, 0, 0, 0)) none) (cond (Nat.beq pc 32) (some (.if_icmp .ge 7, 35, 39, 0, 0, 0)) none)) (cond (Nat.beq pc 29) (some (.getfield 170, 32, 11, 16, 991, 0)) none))) (cond (Nat.ble 24 pc) (cond (Nat.ble 27 pc) (cond (Nat.ble 28 pc) (cond (Nat.beq pc 28) (some (.aload_n 0, 29, 0, 0, 0, 0)) none) (cond (Nat.beq pc 27) (some (.iload_n 3, 28, 0, 0, 0, 0)) none)) (cond (Nat.beq pc 24) (some (.goto (-22), 27, 2, 0, 0, 0)) none)) (cond (Nat.ble 18 pc) (cond (Nat.ble 21 pc) (cond (Nat.beq pc 21) (some (.iinc 3 1, 24, 0, 0, 0, 0)) none) (cond (Nat.beq pc 18) (some (.ifCond .eq 9, 21, 27, 0, 0, 0)) none)) (cond (Nat.beq pc 17) (some (.lcmp, 18, 0, 0, 0, 0)) none)))) (cond (Nat.ble 7 pc) (cond (Nat.ble 14 pc) (cond (Nat.ble 15 pc) (cond (Nat.ble 16 pc) (cond (Nat.beq pc 16) (some (.lload_n 1, 17, 0, 0, 0, 0)) none) (cond (Nat.beq pc 15) (some (.laload, 16, 0, 0, 0, 0)) none)) (cond (Nat.beq pc 14) (some (.iload_n 3, 15, 0, 0, 0, 0)) none)) (cond (Nat.ble 10 pc) (cond (Nat.ble 11 pc) (cond (Nat.beq pc 11) (some (.getfield 28, 14, 11, 18, 993, 0)) none) (cond (Nat.beq pc 10) (some (.aload_n 0, 11, 0, 0, 0, 0)) none)) (cond (Nat.beq pc 7) (some (.if_icmp .ge 20, 10, 27, 0, 0, 0)) none))) (cond (Nat.ble 2 pc) (cond (Nat.ble 3 pc) (cond (Nat.ble 4 pc) (cond (Nat.beq pc 4) (some (.getfield 170, 7, 11, 16, 991, 0)) none) (cond (Nat.beq pc 3) (some (.aload_n 0, 4, 0, 0, 0, 0)) none)) (cond (Nat.beq pc 2) (some (.iload_n 3, 3, 0, 0, 0, 0)) none)) (cond (Nat.ble 1 pc) (cond (Nat.beq pc 1) (some (.istore_n 3, 2, 0, 0, 0, 0)) none) (cond (Nat.beq pc 0) (some (.iconst 0, 1, 0, 0, 0, 0)) none)))))
def rc_145 (pc : Nat) : Option RI := cond (Nat.ble 64 pc) none (cond (Nat.ble 33 pc) (cond (Nat.ble 48 pc) (cond (Nat.ble 57 pc) (cond (Nat.ble 59 pc) (cond (Nat.ble 60 pc) (cond (Nat.ble 63 pc) (cond (Nat.beq pc 63) (some (.ireturn, 64, 0, 0, 0, 0)) none) (cond (Nat.beq pc 60) (some (.invokevirtual 206, 63, 148, 0, 1194, 0)) none)) (cond (Nat.beq pc 59) (some (.aload_n 0, 60, 0, 0, 0, 0)) none)) (cond (Nat.ble 58 pc) (cond (Nat.beq pc 58) (some (.iastore, 59, 0, 0, 0, 0)) none) (cond (Nat.beq pc 57) (some (.iload_n 2, 58, 0, 0, 0, 0)) none))) (cond (Nat.ble 52 pc) (cond (Nat.ble 53 pc) (cond (Nat.ble 56 pc) (cond (Nat.beq pc 56) (some (.iload_n 1, 57, 0, 0, 0, 0)) none) (cond (Nat.beq pc 53) (some (.getfield 38, 56, 11, 21, 996, 0)) none)) (cond (Nat.beq pc 52) (some (.aload_n 0, 53, 0, 0, 0, 0)) none)) (cond (Nat.ble 51 pc) (cond (Nat.beq pc 51) (some (.ireturn, 52, 0, 0, 0, 0)) none) (cond (Nat.beq pc 48) (some (.invokevirtual 199, 51, 146, 0, 1186, 0)) none)))) (cond (Nat.ble 39 pc) (cond (Nat.ble 43 pc) (cond (Nat.ble 46 pc) (cond (Nat.ble 47 pc) (cond (Nat.beq pc 47) (some (.iconst 5, 48, 0, 0, 0, 0)) none) (cond (Nat.beq pc 46) (some (.aload_n 0, 47, 0, 0, 0, 0)) none)) (cond (Nat.beq pc 43) (some (.ifCond .eq 9, 46, 52, 0, 0, 0)) none)) (cond (Nat.ble 40 pc) (cond (Nat.beq pc 40) (some (.invokevirtual 202, 43, 147, 0, 1190, 0)) none) (cond (Nat.beq pc 39) (some (.iload_n 1, 40, 0, 0, 0, 0)) none))) (cond (Nat.ble 37 pc) (cond (Nat.ble 38 pc) (cond (Nat.beq pc 38) (some (.iload_n 2, 39, 0, 0, 0, 0)) none) (cond (Nat.beq pc 37) (some (.aload_n 0, 38, 0, 0, 0, 0)) none)) (cond (Nat.ble 34 pc) (cond (Nat.beq pc 34) (some (.if_icmp .eq 18, 37, 52, 0, 0, 0)) none) (cond (Nat.beq pc 33) (some (.iconst (-1), 34, 0, 0, 0, 0)) none))))) (cond (Nat.ble 15 pc) (cond (Nat.ble 26 pc) (cond (Nat.ble 28 pc) (cond (Nat.ble 31 pc) (cond (Nat.ble 32 pc) (cond (Nat.beq pc 32) (some (.iload_n 2, 33, 0, 0, 0, 0)) none) (cond (Nat.beq pc 31) (some (.ireturn, 32, 0, 0, 0, 0)) none)) (cond (Nat.beq pc 28) (some (.invokevirtual 199, 31, 146, 0, 1186, 0)) none)) (cond (Nat.ble 27 pc) (cond (Nat.beq pc 27) (some (.iconst 1, 28, 0, 0, 0, 0)) none) (cond (Nat.beq pc 26) (some (.aload_n 0, 27, 0, 0, 0, 0)) none))) (cond (Nat.ble 19 pc) (cond (Nat.ble 20 pc) (cond (Nat.ble 23 pc) (cond (Nat.beq pc 23) (some (.ifCond .ne 9, 26, 32, 0, 0, 0)) none) (cond (Nat.beq pc 20) (some (.invokevirtual 193, 23, 143, 0, 1174, 0)) none)) (cond (Nat.beq pc 19) (some (.iload_n 2, 20, 0, 0, 0, 0)) none)) (cond (Nat.ble 18 pc) (cond (Nat.beq pc 18) (some (.aload_n 0, 19, 0, 0, 0, 0)) none) (cond (Nat.beq pc 15) (some (.if_icmp .eq 17, 18, 32, 0, 0, 0)) none)))) (cond (Nat.ble 6 pc) (cond (Nat.ble 10 pc) (cond (Nat.ble 13 pc) (cond (Nat.ble 14 pc) (cond (Nat.beq pc 14) (some (.iconst (-1), 15, 0, 0, 0, 0)) none) (cond (Nat.beq pc 13) (some (.iload_n 2, 14, 0, 0, 0, 0)) none)) (cond (Nat.beq pc 10) (some (.ifCond .eq 16, 13, 26, 0, 0, 0)) none)) (cond (Nat.ble 7 pc) (cond (Nat.beq pc 7) (some (.invokevirtual 193, 10, 143, 0, 1174, 0)) none) (cond (Nat.beq pc 6) (some (.iload_n 1, 7, 0, 0, 0, 0)) none))) (cond (Nat.ble 2 pc) (cond (Nat.ble 5 pc) (cond (Nat.beq pc 5) (some (.aload_n 0, 6, 0, 0, 0, 0)) none) (cond (Nat.beq pc 2) (some (.putfield 95, 5, 11, 0, 975, 0)) none)) (cond (Nat.ble 1 pc) (cond (Nat.beq pc 1) (some (.iconst 0, 2, 0, 0, 0, 0)) none) (cond (Nat.beq pc 0) (some (.aload_n 0, 1, 0, 0, 0, 0)) none))))))
def rc_146 (pc : Nat) : Option RI := cond (Nat.ble 12 pc) none (cond (Nat.ble 6 pc) (cond (Nat.ble 10 pc) (cond (Nat.ble 11 pc) (cond (Nat.beq pc 11) (some (.ireturn, 12, 0, 0, 0, 0)) none) (cond (Nat.beq pc 10) (some (.iconst 0, 11, 0, 0, 0, 0)) none)) (cond (Nat.ble 7 pc) (cond (Nat.beq pc 7) (some (.putfield 9, 10, 11, 2, 977, 0)) none) (cond (Nat.beq pc 6) (some (.iconst (-1), 7, 0, 0, 0, 0)) none))) (cond (Nat.ble 2 pc) (cond (Nat.ble 5 pc) (cond (Nat.beq pc 5) (some (.aload_n 0, 6, 0, 0, 0, 0)) none) (cond (Nat.beq pc 2) (some (.putfield 98, 5, 11, 1, 976, 0)) none)) (cond (Nat.ble 1 pc) (cond (Nat.beq pc 1) (some (.iload_n 1, 2, 0, 0, 0, 0)) none) (cond (Nat.beq pc 0) (some (.aload_n 0, 1, 0, 0, 0, 0)) none))))
def rc_147 (pc : Nat) : Option RI := cond (Nat.ble 33 pc) none (cond (Nat.ble 16 pc) (cond (Nat.ble 23 pc) (cond (Nat.ble 28 pc) (cond (Nat.ble 31 pc) (cond (Nat.ble 32 pc) (cond (Nat.beq pc 32) (some (.ireturn, 33, 0, 0, 0, 0)) none) (cond (Nat.beq pc 31) (some (.iconst 0, 32, 0, 0, 0, 0)) none)) (cond (Nat.beq pc 28) (some (.goto 4, 31, 32, 0, 0, 0)) none)) (cond (Nat.ble 24 pc) (cond (Nat.ble 27 pc) (cond (Nat.beq pc 27) (some (.iconst 1, 28, 0, 0, 0, 0)) none) (cond (Nat.beq pc 24) (some (.if_icmp .ne 7, 27, 31, 0, 0, 0)) none)) (cond (Nat.beq pc 23) (some (.iload_n 2, 24, 0, 0, 0, 0)) none))) (cond (Nat.ble 18 pc) (cond (Nat.ble 19 pc) (cond (Nat.ble 22 pc) (cond (Nat.beq pc 22) (some (.iload_n 3, 23, 0, 0, 0, 0)) none) (cond (Nat.beq pc 19) (some (.goto (-17), 22, 2, 0, 0, 0)) none)) (cond (Nat.beq pc 18) (some (.istore_n 3, 19, 0, 0, 0, 0)) none)) (cond (Nat.ble 17 pc) (cond (Nat.beq pc 17) (some (.iaload, 18, 0, 0, 0, 0)) none) (cond (Nat.beq pc 16) (some (.iload_n 3, 17, 0, 0, 0, 0)) none)))) (cond (Nat.ble 7 pc) (cond (Nat.ble 9 pc) (cond (Nat.ble 12 pc) (cond (Nat.ble 13 pc) (cond (Nat.beq pc 13) (some (.getfield 38, 16, 11, 21, 996, 0)) none) (cond (Nat.beq pc 12) (some (.aload_n 0, 13, 0, 0, 0, 0)) none)) (cond (Nat.beq pc 9) (some (.if_icmp .eq 13, 12, 22, 0, 0, 0)) none)) (cond (Nat.ble 8 pc) (cond (Nat.beq pc 8) (some (.iload_n 2, 9, 0, 0, 0, 0)) none) (cond (Nat.beq pc 7) (some (.iload_n 3, 8, 0, 0, 0, 0)) none))) (cond (Nat.ble 2 pc) (cond (Nat.ble 3 pc) (cond (Nat.ble 4 pc) (cond (Nat.beq pc 4) (some (.if_icmp .eq 18, 7, 22, 0, 0, 0)) none) (cond (Nat.beq pc 3) (some (.iconst (-1), 4, 0, 0, 0, 0)) none)) (cond (Nat.beq pc 2) (some (.iload_n 3, 3, 0, 0, 0, 0)) none)) (cond (Nat.ble 1 pc) (cond (Nat.beq pc 1) (some (.istore_n 3, 2, 0, 0, 0, 0)) none) (cond (Nat.beq pc 0) (some (.iload_n 1, 1, 0, 0, 0, 0)) none)))))
def rc_148 (pc : Nat) : Option RI := cond (Nat.ble 12 pc) none (cond (Nat.ble 6 pc) (cond (Nat.ble 10 pc) (cond (Nat.ble 11 pc) (cond (Nat.beq pc 11) (some (.ireturn, 12, 0, 0, 0, 0)) none) (cond (Nat.beq pc 10) (some (.iconst 1, 11, 0, 0, 0, 0)) none)) (cond (Nat.ble 7 pc) (cond (Nat.beq pc 7) (some (.putfield 9, 10, 11, 2, 977, 0)) none) (cond (Nat.beq pc 6) (some (.iconst (-1), 7, 0, 0, 0, 0)) none))) (cond (Nat.ble 2 pc) (cond (Nat.ble 5 pc) (cond (Nat.beq pc 5) (some (.aload_n 0, 6, 0, 0, 0, 0)) none) (cond (Nat.beq pc 2) (some (.putfield 98, 5, 11, 1, 976, 0)) none)) (cond (Nat.ble 1 pc) (cond (Nat.beq pc 1) (some (.iconst 0, 2, 0, 0, 0, 0)) none) (cond (Nat.beq pc 0) (some (.aload_n 0, 1, 0, 0, 0, 0)) none))))
def rc_149 (pc : Nat) : Option RI := cond (Nat.ble 58 pc) none (cond (Nat.ble 26 pc) (cond (Nat.ble 41 pc) (cond (Nat.ble 49 pc) (cond (Nat.ble 51 pc) (cond (Nat.ble 54 pc) (cond (Nat.ble 57 pc) (cond (Nat.beq pc 57) (some (.ireturn, 58, 0, 0, 0, 0)) none) (cond (Nat.beq pc 54) (some (.invokevirtual 176, 57, 134, 0, 1139, 0)) none)) (cond (Nat.beq pc 51) (some (.invokevirtual 189, 54, 141, 0, 1166, 0)) none)) (cond (Nat.ble 50 pc) (cond (Nat.beq pc 50) (some (.lload_n 3, 51, 0, 0, 0, 0)) none) (cond (Nat.beq pc 49) (some (.aload_n 0, 50, 0, 0, 0, 0)) none))) (cond (Nat.ble 43 pc) (cond (Nat.ble 46 pc) (cond (Nat.beq pc 46) (some (.goto 8, 49, 54, 0, 0, 0)) none) (cond (Nat.beq pc 43) (some (.invokevirtual 196, 46, 144, 0, 1178, 0)) none)) (cond (Nat.ble 42 pc) (cond (Nat.beq pc 42) (some (.lload_n 3, 43, 0, 0, 0, 0)) none) (cond (Nat.beq pc 41) (some (.aload_n 0, 42, 0, 0, 0, 0)) none)))) (cond (Nat.ble 32 pc) (cond (Nat.ble 37 pc) (cond (Nat.ble 38 pc) (cond (Nat.beq pc 38) (some (.ifCond .eq 11, 41, 49, 0, 0, 0)) none) (cond (Nat.beq pc 37) (some (.iload_n 2, 38, 0, 0, 0, 0)) none)) (cond (Nat.ble 34 pc) (cond (Nat.beq pc 34) (some (.goto 20, 37, 54, 0, 0, 0)) none) (cond (Nat.beq pc 32) (some (.bipush (-2), 34, 0, 0, 0, 0)) none))) (cond (Nat.ble 28 pc) (cond (Nat.ble 29 pc) (cond (Nat.beq pc 29) (some (.ifCond .ne 8, 32, 37, 0, 0, 0)) none) (cond (Nat.beq pc 28) (some (.lcmp, 29, 0, 0, 0, 0)) none)) (cond (Nat.ble 27 pc) (cond (Nat.beq pc 27) (some (.lconst 0, 28, 0, 0, 0, 0)) none) (cond (Nat.beq pc 26) (some (.lload_n 3, 27, 0, 0, 0, 0)) none))))) (cond (Nat.ble 14 pc) (cond (Nat.ble 20 pc) (cond (Nat.ble 24 pc) (cond (Nat.ble 25 pc) (cond (Nat.beq pc 25) (some (.aload_n 0, 26, 0, 0, 0, 0)) none) (cond (Nat.beq pc 24) (some (.lstore_n 3, 25, 0, 0, 0, 0)) none)) (cond (Nat.ble 21 pc) (cond (Nat.beq pc 21) (some (.invokevirtual 185, 24, 139, 0, 1158, 0)) none) (cond (Nat.beq pc 20) (some (.iload_n 1, 21, 0, 0, 0, 0)) none))) (cond (Nat.ble 18 pc) (cond (Nat.ble 19 pc) (cond (Nat.beq pc 19) (some (.aload_n 0, 20, 0, 0, 0, 0)) none) (cond (Nat.beq pc 18) (some (.ireturn, 19, 0, 0, 0, 0)) none)) (cond (Nat.ble 15 pc) (cond (Nat.beq pc 15) (some (.invokevirtual 173, 18, 133, 0, 1135, 0)) none) (cond (Nat.beq pc 14) (some (.iconst 2, 15, 0, 0, 0, 0)) none)))) (cond (Nat.ble 6 pc) (cond (Nat.ble 10 pc) (cond (Nat.ble 13 pc) (cond (Nat.beq pc 13) (some (.aload_n 0, 14, 0, 0, 0, 0)) none) (cond (Nat.beq pc 10) (some (.ifCond .ne 9, 13, 19, 0, 0, 0)) none)) (cond (Nat.ble 7 pc) (cond (Nat.beq pc 7) (some (.invokevirtual 182, 10, 138, 0, 1154, 0)) none) (cond (Nat.beq pc 6) (some (.iload_n 1, 7, 0, 0, 0, 0)) none))) (cond (Nat.ble 2 pc) (cond (Nat.ble 5 pc) (cond (Nat.beq pc 5) (some (.aload_n 0, 6, 0, 0, 0, 0)) none) (cond (Nat.beq pc 2) (some (.putfield 95, 5, 11, 0, 975, 0)) none)) (cond (Nat.ble 1 pc) (cond (Nat.beq pc 1) (some (.iconst 0, 2, 0, 0, 0, 0)) none) (cond (Nat.beq pc 0) (some (.aload_n 0, 1, 0, 0, 0, 0)) none))))))
def rc_150 (pc : Nat) : Option RI := cond (Nat.ble 41 pc) none (cond (Nat.ble 20 pc) (cond (Nat.ble 32 pc) (cond (Nat.ble 35 pc) (cond (Nat.ble 37 pc) (cond (Nat.ble 40 pc) (cond (Nat.beq pc 40) (some (.ireturn, 41, 0, 0, 0, 0)) none) (cond (Nat.beq pc 37) (some (.invokevirtual 255, 40, 151, 0, 1206, 0)) none)) (cond (Nat.ble 36 pc) (cond (Nat.beq pc 36) (some (.iload_n 2, 37, 0, 0, 0, 0)) none) (cond (Nat.beq pc 35) (some (.iconst (-1), 36, 0, 0, 0, 0)) none))) (cond (Nat.ble 33 pc) (cond (Nat.ble 34 pc) (cond (Nat.beq pc 34) (some (.iload_n 1, 35, 0, 0, 0, 0)) none) (cond (Nat.beq pc 33) (some (.aload_n 0, 34, 0, 0, 0, 0)) none)) (cond (Nat.beq pc 32) (some (.ireturn, 33, 0, 0, 0, 0)) none))) (cond (Nat.ble 27 pc) (cond (Nat.ble 28 pc) (cond (Nat.ble 29 pc) (cond (Nat.beq pc 29) (some (.invokevirtual 173, 32, 133, 0, 1135, 0)) none) (cond (Nat.beq pc 28) (some (.iconst 2, 29, 0, 0, 0, 0)) none)) (cond (Nat.beq pc 27) (some (.aload_n 0, 28, 0, 0, 0, 0)) none)) (cond (Nat.ble 21 pc) (cond (Nat.ble 24 pc) (cond (Nat.beq pc 24) (some (.ifCond .ne 9, 27, 33, 0, 0, 0)) none) (cond (Nat.beq pc 21) (some (.invokevirtual 182, 24, 138, 0, 1154, 0)) none)) (cond (Nat.beq pc 20) (some (.iload_n 2, 21, 0, 0, 0, 0)) none)))) (cond (Nat.ble 10 pc) (cond (Nat.ble 15 pc) (cond (Nat.ble 18 pc) (cond (Nat.ble 19 pc) (cond (Nat.beq pc 19) (some (.aload_n 0, 20, 0, 0, 0, 0)) none) (cond (Nat.beq pc 18) (some (.ireturn, 19, 0, 0, 0, 0)) none)) (cond (Nat.beq pc 15) (some (.invokevirtual 173, 18, 133, 0, 1135, 0)) none)) (cond (Nat.ble 13 pc) (cond (Nat.ble 14 pc) (cond (Nat.beq pc 14) (some (.iconst 1, 15, 0, 0, 0, 0)) none) (cond (Nat.beq pc 13) (some (.aload_n 0, 14, 0, 0, 0, 0)) none)) (cond (Nat.beq pc 10) (some (.ifCond .ne 9, 13, 19, 0, 0, 0)) none))) (cond (Nat.ble 5 pc) (cond (Nat.ble 6 pc) (cond (Nat.ble 7 pc) (cond (Nat.beq pc 7) (some (.invokevirtual 179, 10, 136, 0, 1147, 0)) none) (cond (Nat.beq pc 6) (some (.iload_n 1, 7, 0, 0, 0, 0)) none)) (cond (Nat.beq pc 5) (some (.aload_n 0, 6, 0, 0, 0, 0)) none)) (cond (Nat.ble 1 pc) (cond (Nat.ble 2 pc) (cond (Nat.beq pc 2) (some (.putfield 95, 5, 11, 0, 975, 0)) none) (cond (Nat.beq pc 1) (some (.iconst 0, 2, 0, 0, 0, 0)) none)) (cond (Nat.beq pc 0) (some (.aload_n 0, 1, 0, 0, 0, 0)) none)))))
def rc_151 (pc : Nat) : Option RI := cond (Nat.ble 146 pc) none (cond (Nat.ble 78 pc) (cond (Nat.ble 113 pc) (cond (Nat.ble 130 pc) (cond (Nat.ble 137 pc) (cond (Nat.ble 141 pc) (cond (Nat.ble 142 pc) (cond (Nat.ble 145 pc) (cond (Nat.beq pc 145) (some (.ireturn, 146, 0, 0, 0, 0)) none) (cond (Nat.beq pc 142) (some (.invokevirtual 176, 145, 134, 0, 1139, 0)) none)) (cond (Nat.beq pc 141) (some (.isub, 142, 0, 0, 0, 0)) none)) (cond (Nat.ble 140 pc) (cond (Nat.beq pc 140) (some (.iconst 1, 141, 0, 0, 0, 0)) none) (cond (Nat.beq pc 137) (some (.getfield 237, 140, 11, 22, 997, 0)) none))) (cond (Nat.ble 132 pc) (cond (Nat.ble 135 pc) (cond (Nat.ble 136 pc) (cond (Nat.beq pc 136) (some (.aload_n 0, 137, 0, 0, 0, 0)) none) (cond (Nat.beq pc 135) (some (.aload_n 0, 136, 0, 0, 0, 0)) none)) (cond (Nat.beq pc 132) (some (.putfield 237, 135, 11, 22, 997, 0)) none)) (cond (Nat.ble 131 pc) (cond (Nat.beq pc 131) (some (.iadd, 132, 0, 0, 0, 0)) none) (cond (Nat.beq pc 130) (some (.iconst 1, 131, 0, 0, 0, 0)) none)))) (cond (Nat.ble 120 pc) (cond (Nat.ble 125 pc) (cond (Nat.ble 126 pc) (cond (Nat.ble 127 pc) (cond (Nat.beq pc 127) (some (.getfield 237, 130, 11, 22, 997, 0)) none) (cond (Nat.beq pc 126) (some (.dup, 127, 0, 0, 0, 0)) none)) (cond (Nat.beq pc 125) (some (.aload_n 0, 126, 0, 0, 0, 0)) none)) (cond (Nat.ble 122 pc) (cond (Nat.beq pc 122) (some (.putfield 224, 125, 11, 23, 998, 0)) none) (cond (Nat.beq pc 120) (some (.iload 4, 122, 0, 0, 0, 0)) none))) (cond (Nat.ble 117 pc) (cond (Nat.ble 118 pc) (cond (Nat.ble 119 pc) (cond (Nat.beq pc 119) (some (.aload_n 0, 120, 0, 0, 0, 0)) none) (cond (Nat.beq pc 118) (some (.iastore, 119, 0, 0, 0, 0)) none)) (cond (Nat.beq pc 117) (some (.isub, 118, 0, 0, 0, 0)) none)) (cond (Nat.ble 114 pc) (cond (Nat.beq pc 114) (some (.getfield 224, 117, 11, 23, 998, 0)) none) (cond (Nat.beq pc 113) (some (.aload_n 0, 114, 0, 0, 0, 0)) none))))) (cond (Nat.ble 94 pc) (cond (Nat.ble 103 pc) (cond (Nat.ble 107 pc) (cond (Nat.ble 108 pc) (cond (Nat.ble 111 pc) (cond (Nat.beq pc 111) (some (.iload 4, 113, 0, 0, 0, 0)) none) (cond (Nat.beq pc 108) (some (.getfield 237, 111, 11, 22, 997, 0)) none)) (cond (Nat.beq pc 107) (some (.aload_n 0, 108, 0, 0, 0, 0)) none)) (cond (Nat.ble 104 pc) (cond (Nat.beq pc 104) (some (.getfield 50, 107, 11, 27, 1002, 0)) none) (cond (Nat.beq pc 103) (some (.aload_n 0, 104, 0, 0, 0, 0)) none))) (cond (Nat.ble 98 pc) (cond (Nat.ble 99 pc) (cond (Nat.ble 102 pc) (cond (Nat.beq pc 102) (some (.iastore, 103, 0, 0, 0, 0)) none) (cond (Nat.beq pc 99) (some (.getfield 224, 102, 11, 23, 998, 0)) none)) (cond (Nat.beq pc 98) (some (.aload_n 0, 99, 0, 0, 0, 0)) none)) (cond (Nat.ble 95 pc) (cond (Nat.beq pc 95) (some (.getfield 237, 98, 11, 22, 997, 0)) none) (cond (Nat.beq pc 94) (some (.aload_n 0, 95, 0, 0, 0, 0)) none)))) (cond (Nat.ble 85 pc) (cond (Nat.ble 89 pc) (cond (Nat.ble 90 pc) (cond (Nat.ble 91 pc) (cond (Nat.beq pc 91) (some (.getfield 47, 94, 11, 26, 1001, 0)) none) (cond (Nat.beq pc 90) (some (.aload_n 0, 91, 0, 0, 0, 0)) none)) (cond (Nat.beq pc 89) (some (.iastore, 90, 0, 0, 0, 0)) none)) (cond (Nat.ble 88 pc) (cond (Nat.beq pc 88) (some (.iload_n 2, 89, 0, 0, 0, 0)) none) (cond (Nat.beq pc 85) (some (.getfield 237, 88, 11, 22, 997, 0)) none))) (cond (Nat.ble 80 pc) (cond (Nat.ble 81 pc) (cond (Nat.ble 84 pc) (cond (Nat.beq pc 84) (some (.aload_n 0, 85, 0, 0, 0, 0)) none) (cond (Nat.beq pc 81) (some (.getfield 44, 84, 11, 25, 1000, 0)) none)) (cond (Nat.beq pc 80) (some (.aload_n 0, 81, 0, 0, 0, 0)) none)) (cond (Nat.ble 79 pc) (cond (Nat.beq pc 79) (some (.iastore, 80, 0, 0, 0, 0)) none) (cond (Nat.beq pc 78) (some (.iload_n 1, 79, 0, 0, 0, 0)) none)))))) (cond (Nat.ble 37 pc) (cond (Nat.ble 58 pc) (cond (Nat.ble 69 pc) (cond (Nat.ble 71 pc) (cond (Nat.ble 74 pc) (cond (Nat.ble 75 pc) (cond (Nat.beq pc 75) (some (.getfield 237, 78, 11, 22, 997, 0)) none) (cond (Nat.beq pc 74) (some (.aload_n 0, 75, 0, 0, 0, 0)) none)) (cond (Nat.beq pc 71) (some (.getfield 41, 74, 11, 24, 999, 0)) none)) (cond (Nat.ble 70 pc) (cond (Nat.beq pc 70) (some (.aload_n 0, 71, 0, 0, 0, 0)) none) (cond (Nat.beq pc 69) (some (.ireturn, 70, 0, 0, 0, 0)) none))) (cond (Nat.ble 64 pc) (cond (Nat.ble 65 pc) (cond (Nat.ble 66 pc) (cond (Nat.beq pc 66) (some (.invokevirtual 173, 69, 133, 0, 1135, 0)) none) (cond (Nat.beq pc 65) (some (.iconst 3, 66, 0, 0, 0, 0)) none)) (cond (Nat.beq pc 64) (some (.aload_n 0, 65, 0, 0, 0, 0)) none)) (cond (Nat.ble 61 pc) (cond (Nat.beq pc 61) (some (.if_icmp .le 9, 64, 70, 0, 0, 0)) none) (cond (Nat.beq pc 58) (some (.sipush 150, 61, 0, 0, 0, 0)) none)))) (cond (Nat.ble 47 pc) (cond (Nat.ble 51 pc) (cond (Nat.ble 53 pc) (cond (Nat.ble 56 pc) (cond (Nat.beq pc 56) (some (.iload 4, 58, 0, 0, 0, 0)) none) (cond (Nat.beq pc 53) (some (.if_icmp .eq 11, 56, 64, 0, 0, 0)) none)) (cond (Nat.beq pc 51) (some (.bipush 20, 53, 0, 0, 0, 0)) none)) (cond (Nat.ble 48 pc) (cond (Nat.beq pc 48) (some (.getfield 237, 51, 11, 22, 997, 0)) none) (cond (Nat.beq pc 47) (some (.aload_n 0, 48, 0, 0, 0, 0)) none))) (cond (Nat.ble 42 pc) (cond (Nat.ble 45 pc) (cond (Nat.ble 46 pc) (cond (Nat.beq pc 46) (some (.ireturn, 47, 0, 0, 0, 0)) none) (cond (Nat.beq pc 45) (some (.iconst (-1), 46, 0, 0, 0, 0)) none)) (cond (Nat.beq pc 42) (some (.putfield 9, 45, 11, 2, 977, 0)) none)) (cond (Nat.ble 39 pc) (cond (Nat.beq pc 39) (some (.getfield 104, 42, 10, 7, 957, 0)) none) (cond (Nat.beq pc 37) (some (.aload 5, 39, 0, 0, 0, 0)) none))))) (cond (Nat.ble 17 pc) (cond (Nat.ble 28 pc) (cond (Nat.ble 32 pc) (cond (Nat.ble 33 pc) (cond (Nat.ble 36 pc) (cond (Nat.beq pc 36) (some (.aload_n 0, 37, 0, 0, 0, 0)) none) (cond (Nat.beq pc 33) (some (.putfield 98, 36, 11, 1, 976, 0)) none)) (cond (Nat.beq pc 32) (some (.iconst 4, 33, 0, 0, 0, 0)) none)) (cond (Nat.ble 31 pc) (cond (Nat.beq pc 31) (some (.aload_n 0, 32, 0, 0, 0, 0)) none) (cond (Nat.beq pc 28) (some (.putfield 246, 31, 11, 3, 978, 0)) none))) (cond (Nat.ble 22 pc) (cond (Nat.ble 23 pc) (cond (Nat.ble 25 pc) (cond (Nat.beq pc 25) (some (.getfield 101, 28, 10, 6, 956, 0)) none) (cond (Nat.beq pc 23) (some (.aload 5, 25, 0, 0, 0, 0)) none)) (cond (Nat.beq pc 22) (some (.aload_n 0, 23, 0, 0, 0, 0)) none)) (cond (Nat.ble 20 pc) (cond (Nat.beq pc 20) (some (.astore 5, 22, 0, 0, 0, 0)) none) (cond (Nat.beq pc 17) (some (.goto 30, 20, 47, 0, 0, 0)) none)))) (cond (Nat.ble 7 pc) (cond (Nat.ble 11 pc) (cond (Nat.ble 12 pc) (cond (Nat.ble 15 pc) (cond (Nat.beq pc 15) (some (.istore 4, 17, 0, 0, 0, 0)) none) (cond (Nat.beq pc 12) (some (.invokevirtual 252, 15, 156, 0, 1225, 0)) none)) (cond (Nat.beq pc 11) (some (.iload_n 1, 12, 0, 0, 0, 0)) none)) (cond (Nat.ble 10 pc) (cond (Nat.beq pc 10) (some (.aload_n 0, 11, 0, 0, 0, 0)) none) (cond (Nat.beq pc 7) (some (.invokevirtual 249, 10, 152, 0, 1210, 0)) none))) (cond (Nat.ble 2 pc) (cond (Nat.ble 5 pc) (cond (Nat.ble 6 pc) (cond (Nat.beq pc 6) (some (.iload_n 3, 7, 0, 0, 0, 0)) none) (cond (Nat.beq pc 5) (some (.aload_n 0, 6, 0, 0, 0, 0)) none)) (cond (Nat.beq pc 2) (some (.putfield 246, 5, 11, 3, 978, 0)) none)) (cond (Nat.ble 1 pc) (cond (Nat.beq pc 1) (some (.iconst 0, 2, 0, 0, 0, 0)) none) (cond (Nat.beq pc 0) (some (.aload_n 0, 1, 0, 0, 0, 0)) none)))))))
def rc_152 (pc : Nat) : Option RI := cond (Nat.ble 20 pc) none (cond (Nat.ble 10 pc) (cond (Nat.ble 15 pc) (cond (Nat.ble 16 pc) (cond (Nat.ble 19 pc) (cond (Nat.beq pc 19) (some (.return_, 20, 0, 0, 0, 0)) none) (cond (Nat.beq pc 16) (some (.invokevirtual 153, 19, 153, 0, 1214, 0)) none)) (cond (Nat.beq pc 15) (some (.aload_n 0, 16, 0, 0, 0, 0)) none)) (cond (Nat.ble 11 pc) (cond (Nat.ble 12 pc) (cond (Nat.beq pc 12) (some (.putfield 122, 15, 11, 8, 983, 0)) none) (cond (Nat.beq pc 11) (some (.iconst 0, 12, 0, 0, 0, 0)) none)) (cond (Nat.beq pc 10) (some (.aload_n 0, 11, 0, 0, 0, 0)) none))) (cond (Nat.ble 5 pc) (cond (Nat.ble 6 pc) (cond (Nat.ble 7 pc) (cond (Nat.beq pc 7) (some (.putfield 150, 10, 11, 6, 981, 0)) none) (cond (Nat.beq pc 6) (some (.iconst 0, 7, 0, 0, 0, 0)) none)) (cond (Nat.beq pc 5) (some (.aload_n 0, 6, 0, 0, 0, 0)) none)) (cond (Nat.ble 1 pc) (cond (Nat.ble 2 pc) (cond (Nat.beq pc 2) (some (.putfield 107, 5, 11, 7, 982, 0)) none) (cond (Nat.beq pc 1) (some (.iload_n 1, 2, 0, 0, 0, 0)) none)) (cond (Nat.beq pc 0) (some (.aload_n 0, 1, 0, 0, 0, 0)) none))))
def rc_153 (pc : Nat) : Option RI := cond (Nat.ble 286 pc) none (cond (Nat.ble 143 pc) (cond (Nat.ble 217 pc) (cond (Nat.ble 253 pc) (cond (Nat.ble 270 pc) (cond (Nat.ble 277 pc) (cond (Nat.ble 281 pc) (cond (Nat.ble 282 pc) (cond (Nat.ble 285 pc) (cond (Nat.beq pc 285) (some (.return_, 286, 0, 0, 0, 0)) none) (cond (Nat.beq pc 282) (some (.putfield 122, 285, 11, 8, 983, 0)) none)) (cond (Nat.beq pc 281) (some (.iadd, 282, 0, 0, 0, 0)) none)) (cond (Nat.ble 280 pc) (cond (Nat.beq pc 280) (some (.iconst 1, 281, 0, 0, 0, 0)) none) (cond (Nat.beq pc 277) (some (.getfield 122, 280, 11, 8, 983, 0)) none))) (cond (Nat.ble 272 pc) (cond (Nat.ble 275 pc) (cond (Nat.ble 276 pc) (cond (Nat.beq pc 276) (some (.dup, 277, 0, 0, 0, 0)) none) (cond (Nat.beq pc 275) (some (.aload_n 0, 276, 0, 0, 0, 0)) none)) (cond (Nat.beq pc 272) (some (.putfield 133, 275, 11, 11, 986, 0)) none)) (cond (Nat.ble 271 pc) (cond (Nat.beq pc 271) (some (.iload_n 1, 272, 0, 0, 0, 0)) none) (cond (Nat.beq pc 270) (some (.aload_n 0, 271, 0, 0, 0, 0)) none)))) (cond (Nat.ble 260 pc) (cond (Nat.ble 265 pc) (cond (Nat.ble 266 pc) (cond (Nat.ble 267 pc) (cond (Nat.beq pc 267) (some (.putfield 130, 270, 11, 9, 984, 0)) none) (cond (Nat.beq pc 266) (some (.iconst 4, 267, 0, 0, 0, 0)) none)) (cond (Nat.beq pc 265) (some (.aload_n 0, 266, 0, 0, 0, 0)) none)) (cond (Nat.ble 262 pc) (cond (Nat.beq pc 262) (some (.if_icmp .ne 23, 265, 285, 0, 0, 0)) none) (cond (Nat.beq pc 260) (some (.bipush 59, 262, 0, 0, 0, 0)) none))) (cond (Nat.ble 256 pc) (cond (Nat.ble 259 pc) (cond (Nat.beq pc 259) (some (.iload_n 1, 260, 0, 0, 0, 0)) none) (cond (Nat.beq pc 256) (some (.if_icmp .eq 9, 259, 265, 0, 0, 0)) none)) (cond (Nat.ble 254 pc) (cond (Nat.beq pc 254) (some (.bipush 44, 256, 0, 0, 0, 0)) none) (cond (Nat.beq pc 253) (some (.iload_n 1, 254, 0, 0, 0, 0)) none))))) (cond (Nat.ble 233 pc) (cond (Nat.ble 242 pc) (cond (Nat.ble 246 pc) (cond (Nat.ble 247 pc) (cond (Nat.ble 250 pc) (cond (Nat.beq pc 250) (some (.goto 35, 253, 285, 0, 0, 0)) none) (cond (Nat.beq pc 247) (some (.putfield 130, 250, 11, 9, 984, 0)) none)) (cond (Nat.beq pc 246) (some (.iconst 3, 247, 0, 0, 0, 0)) none)) (cond (Nat.ble 245 pc) (cond (Nat.beq pc 245) (some (.aload_n 0, 246, 0, 0, 0, 0)) none) (cond (Nat.beq pc 242) (some (.if_icmp .ge 43, 245, 285, 0, 0, 0)) none))) (cond (Nat.ble 237 pc) (cond (Nat.ble 240 pc) (cond (Nat.ble 241 pc) (cond (Nat.beq pc 241) (some (.iconst 4, 242, 0, 0, 0, 0)) none) (cond (Nat.beq pc 240) (some (.iload_n 2, 241, 0, 0, 0, 0)) none)) (cond (Nat.beq pc 237) (some (.goto (-55), 240, 182, 0, 0, 0)) none)) (cond (Nat.ble 234 pc) (cond (Nat.beq pc 234) (some (.putfield 122, 237, 11, 8, 983, 0)) none) (cond (Nat.beq pc 233) (some (.iadd, 234, 0, 0, 0, 0)) none)))) (cond (Nat.ble 224 pc) (cond (Nat.ble 228 pc) (cond (Nat.ble 229 pc) (cond (Nat.ble 232 pc) (cond (Nat.beq pc 232) (some (.iconst 1, 233, 0, 0, 0, 0)) none) (cond (Nat.beq pc 229) (some (.getfield 122, 232, 11, 8, 983, 0)) none)) (cond (Nat.beq pc 228) (some (.dup, 229, 0, 0, 0, 0)) none)) (cond (Nat.ble 227 pc) (cond (Nat.beq pc 227) (some (.aload_n 0, 228, 0, 0, 0, 0)) none) (cond (Nat.beq pc 224) (some (.iinc 2 1, 227, 0, 0, 0, 0)) none))) (cond (Nat.ble 220 pc) (cond (Nat.ble 221 pc) (cond (Nat.beq pc 221) (some (.putfield 147, 224, 11, 12, 987, 0)) none) (cond (Nat.beq pc 220) (some (.isub, 221, 0, 0, 0, 0)) none)) (cond (Nat.ble 218 pc) (cond (Nat.beq pc 218) (some (.bipush 48, 220, 0, 0, 0, 0)) none) (cond (Nat.beq pc 217) (some (.iadd, 218, 0, 0, 0, 0)) none)))))) (cond (Nat.ble 179 pc) (cond (Nat.ble 198 pc) (cond (Nat.ble 208 pc) (cond (Nat.ble 210 pc) (cond (Nat.ble 211 pc) (cond (Nat.ble 214 pc) (cond (Nat.beq pc 214) (some (.invokevirtual 125, 217, 154, 0, 1218, 0)) none) (cond (Nat.beq pc 211) (some (.getfield 122, 214, 11, 8, 983, 0)) none)) (cond (Nat.beq pc 210) (some (.aload_n 0, 211, 0, 0, 0, 0)) none)) (cond (Nat.ble 209 pc) (cond (Nat.beq pc 209) (some (.aload_n 0, 210, 0, 0, 0, 0)) none) (cond (Nat.beq pc 208) (some (.imul, 209, 0, 0, 0, 0)) none))) (cond (Nat.ble 202 pc) (cond (Nat.ble 204 pc) (cond (Nat.ble 205 pc) (cond (Nat.beq pc 205) (some (.getfield 147, 208, 11, 12, 987, 0)) none) (cond (Nat.beq pc 204) (some (.aload_n 0, 205, 0, 0, 0, 0)) none)) (cond (Nat.beq pc 202) (some (.bipush 10, 204, 0, 0, 0, 0)) none)) (cond (Nat.ble 201 pc) (cond (Nat.beq pc 201) (some (.aload_n 0, 202, 0, 0, 0, 0)) none) (cond (Nat.beq pc 198) (some (.if_icmp .ge 26, 201, 224, 0, 0, 0)) none)))) (cond (Nat.ble 187 pc) (cond (Nat.ble 193 pc) (cond (Nat.ble 196 pc) (cond (Nat.ble 197 pc) (cond (Nat.beq pc 197) (some (.iconst 3, 198, 0, 0, 0, 0)) none) (cond (Nat.beq pc 196) (some (.iload_n 2, 197, 0, 0, 0, 0)) none)) (cond (Nat.beq pc 193) (some (.ifCond .eq 47, 196, 240, 0, 0, 0)) none)) (cond (Nat.ble 190 pc) (cond (Nat.beq pc 190) (some (.invokestatic 144, 193, 155, 0, 1222, 0)) none) (cond (Nat.beq pc 187) (some (.invokevirtual 125, 190, 154, 0, 1218, 0)) none))) (cond (Nat.ble 183 pc) (cond (Nat.ble 184 pc) (cond (Nat.beq pc 184) (some (.getfield 122, 187, 11, 8, 983, 0)) none) (cond (Nat.beq pc 183) (some (.aload_n 0, 184, 0, 0, 0, 0)) none)) (cond (Nat.ble 182 pc) (cond (Nat.beq pc 182) (some (.aload_n 0, 183, 0, 0, 0, 0)) none) (cond (Nat.beq pc 179) (some (.putfield 147, 182, 11, 12, 987, 0)) none))))) (cond (Nat.ble 159 pc) (cond (Nat.ble 170 pc) (cond (Nat.ble 174 pc) (cond (Nat.ble 177 pc) (cond (Nat.ble 178 pc) (cond (Nat.beq pc 178) (some (.iconst 0, 179, 0, 0, 0, 0)) none) (cond (Nat.beq pc 177) (some (.aload_n 0, 178, 0, 0, 0, 0)) none)) (cond (Nat.beq pc 174) (some (.ifCond .eq 79, 177, 253, 0, 0, 0)) none)) (cond (Nat.ble 171 pc) (cond (Nat.beq pc 171) (some (.invokestatic 144, 174, 155, 0, 1222, 0)) none) (cond (Nat.beq pc 170) (some (.iload_n 1, 171, 0, 0, 0, 0)) none))) (cond (Nat.ble 163 pc) (cond (Nat.ble 164 pc) (cond (Nat.ble 167 pc) (cond (Nat.beq pc 167) (some (.goto 118, 170, 285, 0, 0, 0)) none) (cond (Nat.beq pc 164) (some (.putfield 130, 167, 11, 9, 984, 0)) none)) (cond (Nat.beq pc 163) (some (.iconst 2, 164, 0, 0, 0, 0)) none)) (cond (Nat.ble 162 pc) (cond (Nat.beq pc 162) (some (.aload_n 0, 163, 0, 0, 0, 0)) none) (cond (Nat.beq pc 159) (some (.if_icmp .gt 126, 162, 285, 0, 0, 0)) none)))) (cond (Nat.ble 149 pc) (cond (Nat.ble 153 pc) (cond (Nat.ble 156 pc) (cond (Nat.ble 157 pc) (cond (Nat.beq pc 157) (some (.bipush 10, 159, 0, 0, 0, 0)) none) (cond (Nat.beq pc 156) (some (.iload_n 2, 157, 0, 0, 0, 0)) none)) (cond (Nat.beq pc 153) (some (.goto (-60), 156, 93, 0, 0, 0)) none)) (cond (Nat.ble 150 pc) (cond (Nat.beq pc 150) (some (.putfield 122, 153, 11, 8, 983, 0)) none) (cond (Nat.beq pc 149) (some (.iadd, 150, 0, 0, 0, 0)) none))) (cond (Nat.ble 145 pc) (cond (Nat.ble 148 pc) (cond (Nat.beq pc 148) (some (.iconst 1, 149, 0, 0, 0, 0)) none) (cond (Nat.beq pc 145) (some (.getfield 122, 148, 11, 8, 983, 0)) none)) (cond (Nat.ble 144 pc) (cond (Nat.beq pc 144) (some (.dup, 145, 0, 0, 0, 0)) none) (cond (Nat.beq pc 143) (some (.aload_n 0, 144, 0, 0, 0, 0)) none))))))) (cond (Nat.ble 69 pc) (cond (Nat.ble 108 pc) (cond (Nat.ble 124 pc) (cond (Nat.ble 134 pc) (cond (Nat.ble 136 pc) (cond (Nat.ble 137 pc) (cond (Nat.ble 140 pc) (cond (Nat.beq pc 140) (some (.iinc 2 1, 143, 0, 0, 0, 0)) none) (cond (Nat.beq pc 137) (some (.putfield 140, 140, 11, 13, 988, 0)) none)) (cond (Nat.beq pc 136) (some (.ladd, 137, 0, 0, 0, 0)) none)) (cond (Nat.ble 135 pc) (cond (Nat.beq pc 135) (some (.i2l, 136, 0, 0, 0, 0)) none) (cond (Nat.beq pc 134) (some (.iadd, 135, 0, 0, 0, 0)) none))) (cond (Nat.ble 130 pc) (cond (Nat.ble 132 pc) (cond (Nat.ble 133 pc) (cond (Nat.beq pc 133) (some (.iconst 1, 134, 0, 0, 0, 0)) none) (cond (Nat.beq pc 132) (some (.isub, 133, 0, 0, 0, 0)) none)) (cond (Nat.beq pc 130) (some (.bipush 97, 132, 0, 0, 0, 0)) none)) (cond (Nat.ble 127 pc) (cond (Nat.beq pc 127) (some (.invokevirtual 125, 130, 154, 0, 1218, 0)) none) (cond (Nat.beq pc 124) (some (.getfield 122, 127, 11, 8, 983, 0)) none)))) (cond (Nat.ble 117 pc) (cond (Nat.ble 121 pc) (cond (Nat.ble 122 pc) (cond (Nat.ble 123 pc) (cond (Nat.beq pc 123) (some (.aload_n 0, 124, 0, 0, 0, 0)) none) (cond (Nat.beq pc 122) (some (.aload_n 0, 123, 0, 0, 0, 0)) none)) (cond (Nat.beq pc 121) (some (.lmul, 122, 0, 0, 0, 0)) none)) (cond (Nat.ble 118 pc) (cond (Nat.beq pc 118) (some (.getfield 140, 121, 11, 13, 988, 0)) none) (cond (Nat.beq pc 117) (some (.aload_n 0, 118, 0, 0, 0, 0)) none))) (cond (Nat.ble 113 pc) (cond (Nat.ble 114 pc) (cond (Nat.beq pc 114) (some (.ldc2_w 116, 117, 0, 0, 1165, 32)) none) (cond (Nat.beq pc 113) (some (.aload_n 0, 114, 0, 0, 0, 0)) none)) (cond (Nat.ble 110 pc) (cond (Nat.beq pc 110) (some (.if_icmp .ge 30, 113, 140, 0, 0, 0)) none) (cond (Nat.beq pc 108) (some (.bipush 10, 110, 0, 0, 0, 0)) none))))) (cond (Nat.ble 88 pc) (cond (Nat.ble 95 pc) (cond (Nat.ble 101 pc) (cond (Nat.ble 104 pc) (cond (Nat.ble 107 pc) (cond (Nat.beq pc 107) (some (.iload_n 2, 108, 0, 0, 0, 0)) none) (cond (Nat.beq pc 104) (some (.ifCond .eq 52, 107, 156, 0, 0, 0)) none)) (cond (Nat.beq pc 101) (some (.invokestatic 136, 104, 140, 0, 1162, 0)) none)) (cond (Nat.ble 98 pc) (cond (Nat.beq pc 98) (some (.invokevirtual 125, 101, 154, 0, 1218, 0)) none) (cond (Nat.beq pc 95) (some (.getfield 122, 98, 11, 8, 983, 0)) none))) (cond (Nat.ble 90 pc) (cond (Nat.ble 93 pc) (cond (Nat.ble 94 pc) (cond (Nat.beq pc 94) (some (.aload_n 0, 95, 0, 0, 0, 0)) none) (cond (Nat.beq pc 93) (some (.aload_n 0, 94, 0, 0, 0, 0)) none)) (cond (Nat.beq pc 90) (some (.putfield 140, 93, 11, 13, 988, 0)) none)) (cond (Nat.ble 89 pc) (cond (Nat.beq pc 89) (some (.lconst 0, 90, 0, 0, 0, 0)) none) (cond (Nat.beq pc 88) (some (.aload_n 0, 89, 0, 0, 0, 0)) none)))) (cond (Nat.ble 75 pc) (cond (Nat.ble 81 pc) (cond (Nat.ble 82 pc) (cond (Nat.ble 85 pc) (cond (Nat.beq pc 85) (some (.ifCond .eq 85, 88, 170, 0, 0, 0)) none) (cond (Nat.beq pc 82) (some (.invokestatic 136, 85, 140, 0, 1162, 0)) none)) (cond (Nat.beq pc 81) (some (.iload_n 1, 82, 0, 0, 0, 0)) none)) (cond (Nat.ble 78 pc) (cond (Nat.beq pc 78) (some (.goto 207, 81, 285, 0, 0, 0)) none) (cond (Nat.beq pc 75) (some (.putfield 130, 78, 11, 9, 984, 0)) none))) (cond (Nat.ble 73 pc) (cond (Nat.ble 74 pc) (cond (Nat.beq pc 74) (some (.iconst 1, 75, 0, 0, 0, 0)) none) (cond (Nat.beq pc 73) (some (.aload_n 0, 74, 0, 0, 0, 0)) none)) (cond (Nat.ble 70 pc) (cond (Nat.beq pc 70) (some (.if_icmp .ne 11, 73, 81, 0, 0, 0)) none) (cond (Nat.beq pc 69) (some (.iconst (-1), 70, 0, 0, 0, 0)) none)))))) (cond (Nat.ble 36 pc) (cond (Nat.ble 53 pc) (cond (Nat.ble 62 pc) (cond (Nat.ble 66 pc) (cond (Nat.ble 67 pc) (cond (Nat.ble 68 pc) (cond (Nat.beq pc 68) (some (.iload_n 1, 69, 0, 0, 0, 0)) none) (cond (Nat.beq pc 67) (some (.istore_n 2, 68, 0, 0, 0, 0)) none)) (cond (Nat.beq pc 66) (some (.iconst 0, 67, 0, 0, 0, 0)) none)) (cond (Nat.ble 65 pc) (cond (Nat.beq pc 65) (some (.istore_n 1, 66, 0, 0, 0, 0)) none) (cond (Nat.beq pc 62) (some (.invokevirtual 125, 65, 154, 0, 1218, 0)) none))) (cond (Nat.ble 57 pc) (cond (Nat.ble 58 pc) (cond (Nat.ble 59 pc) (cond (Nat.beq pc 59) (some (.getfield 122, 62, 11, 8, 983, 0)) none) (cond (Nat.beq pc 58) (some (.aload_n 0, 59, 0, 0, 0, 0)) none)) (cond (Nat.beq pc 57) (some (.aload_n 0, 58, 0, 0, 0, 0)) none)) (cond (Nat.ble 54 pc) (cond (Nat.beq pc 54) (some (.putfield 133, 57, 11, 11, 986, 0)) none) (cond (Nat.beq pc 53) (some (.iconst 0, 54, 0, 0, 0, 0)) none)))) (cond (Nat.ble 44 pc) (cond (Nat.ble 48 pc) (cond (Nat.ble 49 pc) (cond (Nat.ble 52 pc) (cond (Nat.beq pc 52) (some (.aload_n 0, 53, 0, 0, 0, 0)) none) (cond (Nat.beq pc 49) (some (.putfield 130, 52, 11, 9, 984, 0)) none)) (cond (Nat.beq pc 48) (some (.iconst 0, 49, 0, 0, 0, 0)) none)) (cond (Nat.ble 47 pc) (cond (Nat.beq pc 47) (some (.aload_n 0, 48, 0, 0, 0, 0)) none) (cond (Nat.beq pc 44) (some (.putfield 129, 47, 11, 10, 985, 0)) none))) (cond (Nat.ble 40 pc) (cond (Nat.ble 41 pc) (cond (Nat.beq pc 41) (some (.getfield 122, 44, 11, 8, 983, 0)) none) (cond (Nat.beq pc 40) (some (.aload_n 0, 41, 0, 0, 0, 0)) none)) (cond (Nat.ble 39 pc) (cond (Nat.beq pc 39) (some (.aload_n 0, 40, 0, 0, 0, 0)) none) (cond (Nat.beq pc 36) (some (.goto (-36), 39, 0, 0, 0, 0)) none))))) (cond (Nat.ble 18 pc) (cond (Nat.ble 27 pc) (cond (Nat.ble 31 pc) (cond (Nat.ble 32 pc) (cond (Nat.ble 33 pc) (cond (Nat.beq pc 33) (some (.putfield 122, 36, 11, 8, 983, 0)) none) (cond (Nat.beq pc 32) (some (.iadd, 33, 0, 0, 0, 0)) none)) (cond (Nat.beq pc 31) (some (.iconst 1, 32, 0, 0, 0, 0)) none)) (cond (Nat.ble 28 pc) (cond (Nat.beq pc 28) (some (.getfield 122, 31, 11, 8, 983, 0)) none) (cond (Nat.beq pc 27) (some (.dup, 28, 0, 0, 0, 0)) none))) (cond (Nat.ble 23 pc) (cond (Nat.ble 26 pc) (cond (Nat.beq pc 26) (some (.aload_n 0, 27, 0, 0, 0, 0)) none) (cond (Nat.beq pc 23) (some (.if_icmp .ne 16, 26, 39, 0, 0, 0)) none)) (cond (Nat.ble 21 pc) (cond (Nat.beq pc 21) (some (.bipush 10, 23, 0, 0, 0, 0)) none) (cond (Nat.beq pc 18) (some (.invokevirtual 125, 21, 154, 0, 1218, 0)) none)))) (cond (Nat.ble 8 pc) (cond (Nat.ble 13 pc) (cond (Nat.ble 14 pc) (cond (Nat.ble 15 pc) (cond (Nat.beq pc 15) (some (.getfield 122, 18, 11, 8, 983, 0)) none) (cond (Nat.beq pc 14) (some (.aload_n 0, 15, 0, 0, 0, 0)) none)) (cond (Nat.beq pc 13) (some (.aload_n 0, 14, 0, 0, 0, 0)) none)) (cond (Nat.ble 10 pc) (cond (Nat.beq pc 10) (some (.if_icmp .eq 16, 13, 26, 0, 0, 0)) none) (cond (Nat.beq pc 8) (some (.bipush 32, 10, 0, 0, 0, 0)) none))) (cond (Nat.ble 2 pc) (cond (Nat.ble 5 pc) (cond (Nat.beq pc 5) (some (.invokevirtual 125, 8, 154, 0, 1218, 0)) none) (cond (Nat.beq pc 2) (some (.getfield 122, 5, 11, 8, 983, 0)) none)) (cond (Nat.ble 1 pc) (cond (Nat.beq pc 1) (some (.aload_n 0, 2, 0, 0, 0, 0)) none) (cond (Nat.beq pc 0) (some (.aload_n 0, 1, 0, 0, 0, 0)) none))))))))
def rc_154 (pc : Nat) : Option RI := cond (Nat.ble 23 pc) none (cond (Nat.ble 12 pc) (cond (Nat.ble 17 pc) (cond (Nat.ble 21 pc) (cond (Nat.ble 22 pc) (cond (Nat.beq pc 22) (some (.ireturn, 23, 0, 0, 0, 0)) none) (cond (Nat.beq pc 21) (some (.iconst (-1), 22, 0, 0, 0, 0)) none)) (cond (Nat.ble 18 pc) (cond (Nat.beq pc 18) (some (.goto 4, 21, 22, 0, 0, 0)) none) (cond (Nat.beq pc 17) (some (.iand, 18, 0, 0, 0, 0)) none))) (cond (Nat.ble 13 pc) (cond (Nat.ble 14 pc) (cond (Nat.beq pc 14) (some (.sipush 255, 17, 0, 0, 0, 0)) none) (cond (Nat.beq pc 13) (some (.baload, 14, 0, 0, 0, 0)) none)) (cond (Nat.beq pc 12) (some (.iload_n 1, 13, 0, 0, 0, 0)) none))) (cond (Nat.ble 5 pc) (cond (Nat.ble 8 pc) (cond (Nat.ble 9 pc) (cond (Nat.beq pc 9) (some (.getfield 20, 12, 11, 5, 980, 0)) none) (cond (Nat.beq pc 8) (some (.aload_n 0, 9, 0, 0, 0, 0)) none)) (cond (Nat.beq pc 5) (some (.if_icmp .ge 16, 8, 21, 0, 0, 0)) none)) (cond (Nat.ble 1 pc) (cond (Nat.ble 2 pc) (cond (Nat.beq pc 2) (some (.getfield 107, 5, 11, 7, 982, 0)) none) (cond (Nat.beq pc 1) (some (.aload_n 0, 2, 0, 0, 0, 0)) none)) (cond (Nat.beq pc 0) (some (.iload_n 1, 1, 0, 0, 0, 0)) none))))
def rc_155 (pc : Nat) : Option RI := cond (Nat.ble 18 pc) none (cond (Nat.ble 9 pc) (cond (Nat.ble 13 pc) (cond (Nat.ble 16 pc) (cond (Nat.ble 17 pc) (cond (Nat.beq pc 17) (some (.ireturn, 18, 0, 0, 0, 0)) none) (cond (Nat.beq pc 16) (some (.iconst 0, 17, 0, 0, 0, 0)) none)) (cond (Nat.beq pc 13) (some (.goto 4, 16, 17, 0, 0, 0)) none)) (cond (Nat.ble 12 pc) (cond (Nat.beq pc 12) (some (.iconst 1, 13, 0, 0, 0, 0)) none) (cond (Nat.beq pc 9) (some (.if_icmp .gt 7, 12, 16, 0, 0, 0)) none))) (cond (Nat.ble 3 pc) (cond (Nat.ble 6 pc) (cond (Nat.ble 7 pc) (cond (Nat.beq pc 7) (some (.bipush 57, 9, 0, 0, 0, 0)) none) (cond (Nat.beq pc 6) (some (.iload_n 0, 7, 0, 0, 0, 0)) none)) (cond (Nat.beq pc 3) (some (.if_icmp .lt 13, 6, 16, 0, 0, 0)) none)) (cond (Nat.ble 1 pc) (cond (Nat.beq pc 1) (some (.bipush 48, 3, 0, 0, 0, 0)) none) (cond (Nat.beq pc 0) (some (.iload_n 0, 1, 0, 0, 0, 0)) none))))
def rc_156 (pc : Nat) : Option RI := cond (Nat.ble 260 pc) none (cond (Nat.ble 127 pc) (cond (Nat.ble 194 pc) (cond (Nat.ble 225 pc) (cond (Nat.ble 244 pc) (cond (Nat.ble 251 pc) (cond (Nat.ble 257 pc) (cond (Nat.ble 258 pc) (cond (Nat.ble 259 pc) (cond (Nat.beq pc 259) (some (.ireturn, 260, 0, 0, 0, 0)) none) (cond (Nat.beq pc 258) (some (.iload_n 2, 259, 0, 0, 0, 0)) none)) (cond (Nat.beq pc 257) (some (.athrow, 258, 0, 0, 0, 0)) none)) (cond (Nat.ble 254 pc) (cond (Nat.beq pc 254) (some (.invokevirtual 228, 257, 159, 0, 1239, 0)) none) (cond (Nat.beq pc 251) (some (.getfield 129, 254, 11, 10, 985, 0)) none))) (cond (Nat.ble 248 pc) (cond (Nat.ble 249 pc) (cond (Nat.ble 250 pc) (cond (Nat.beq pc 250) (some (.aload_n 0, 251, 0, 0, 0, 0)) none) (cond (Nat.beq pc 249) (some (.iconst 1, 250, 0, 0, 0, 0)) none)) (cond (Nat.beq pc 248) (some (.aload_n 0, 249, 0, 0, 0, 0)) none)) (cond (Nat.ble 245 pc) (cond (Nat.beq pc 245) (some (.if_icmp .eq 13, 248, 258, 0, 0, 0)) none) (cond (Nat.beq pc 244) (some (.iconst 1, 245, 0, 0, 0, 0)) none)))) (cond (Nat.ble 233 pc) (cond (Nat.ble 237 pc) (cond (Nat.ble 240 pc) (cond (Nat.ble 241 pc) (cond (Nat.beq pc 241) (some (.getfield 130, 244, 11, 9, 984, 0)) none) (cond (Nat.beq pc 240) (some (.aload_n 0, 241, 0, 0, 0, 0)) none)) (cond (Nat.beq pc 237) (some (.goto (-230), 240, 7, 0, 0, 0)) none)) (cond (Nat.ble 234 pc) (cond (Nat.beq pc 234) (some (.invokevirtual 153, 237, 153, 0, 1214, 0)) none) (cond (Nat.beq pc 233) (some (.aload_n 0, 234, 0, 0, 0, 0)) none))) (cond (Nat.ble 229 pc) (cond (Nat.ble 230 pc) (cond (Nat.beq pc 230) (some (.ifCond .eq (-223), 233, 7, 0, 0, 0)) none) (cond (Nat.beq pc 229) (some (.iload_n 3, 230, 0, 0, 0, 0)) none)) (cond (Nat.ble 228 pc) (cond (Nat.beq pc 228) (some (.istore_n 3, 229, 0, 0, 0, 0)) none) (cond (Nat.beq pc 225) (some (.invokevirtual 240, 228, 162, 0, 1257, 0)) none))))) (cond (Nat.ble 209 pc) (cond (Nat.ble 215 pc) (cond (Nat.ble 219 pc) (cond (Nat.ble 222 pc) (cond (Nat.ble 223 pc) (cond (Nat.beq pc 223) (some (.bipush 59, 225, 0, 0, 0, 0)) none) (cond (Nat.beq pc 222) (some (.aload_n 0, 223, 0, 0, 0, 0)) none)) (cond (Nat.beq pc 219) (some (.iinc 2 1, 222, 0, 0, 0, 0)) none)) (cond (Nat.ble 218 pc) (cond (Nat.beq pc 218) (some (.iastore, 219, 0, 0, 0, 0)) none) (cond (Nat.beq pc 215) (some (.getfield 237, 218, 11, 22, 997, 0)) none))) (cond (Nat.ble 213 pc) (cond (Nat.ble 214 pc) (cond (Nat.beq pc 214) (some (.aload_n 0, 215, 0, 0, 0, 0)) none) (cond (Nat.beq pc 213) (some (.iload_n 2, 214, 0, 0, 0, 0)) none)) (cond (Nat.ble 210 pc) (cond (Nat.beq pc 210) (some (.getfield 62, 213, 11, 31, 1006, 0)) none) (cond (Nat.beq pc 209) (some (.aload_n 0, 210, 0, 0, 0, 0)) none)))) (cond (Nat.ble 200 pc) (cond (Nat.ble 204 pc) (cond (Nat.ble 205 pc) (cond (Nat.ble 206 pc) (cond (Nat.beq pc 206) (some (.invokevirtual 233, 209, 160, 0, 1244, 0)) none) (cond (Nat.beq pc 205) (some (.iload_n 2, 206, 0, 0, 0, 0)) none)) (cond (Nat.beq pc 204) (some (.aload_n 0, 205, 0, 0, 0, 0)) none)) (cond (Nat.ble 203 pc) (cond (Nat.beq pc 203) (some (.athrow, 204, 0, 0, 0, 0)) none) (cond (Nat.beq pc 200) (some (.invokevirtual 228, 203, 159, 0, 1239, 0)) none))) (cond (Nat.ble 196 pc) (cond (Nat.ble 197 pc) (cond (Nat.beq pc 197) (some (.getfield 129, 200, 11, 10, 985, 0)) none) (cond (Nat.beq pc 196) (some (.aload_n 0, 197, 0, 0, 0, 0)) none)) (cond (Nat.ble 195 pc) (cond (Nat.beq pc 195) (some (.iconst 1, 196, 0, 0, 0, 0)) none) (cond (Nat.beq pc 194) (some (.aload_n 0, 195, 0, 0, 0, 0)) none)))))) (cond (Nat.ble 161 pc) (cond (Nat.ble 174 pc) (cond (Nat.ble 182 pc) (cond (Nat.ble 186 pc) (cond (Nat.ble 188 pc) (cond (Nat.ble 191 pc) (cond (Nat.beq pc 191) (some (.ifCond .ne 13, 194, 204, 0, 0, 0)) none) (cond (Nat.beq pc 188) (some (.invokevirtual 212, 191, 157, 0, 1230, 0)) none)) (cond (Nat.beq pc 186) (some (.ldc 231, 188, 1, 1, 1243, 0)) none)) (cond (Nat.ble 185 pc) (cond (Nat.beq pc 185) (some (.aload_n 0, 186, 0, 0, 0, 0)) none) (cond (Nat.beq pc 182) (some (.invokevirtual 153, 185, 153, 0, 1214, 0)) none))) (cond (Nat.ble 180 pc) (cond (Nat.ble 181 pc) (cond (Nat.beq pc 181) (some (.aload_n 0, 182, 0, 0, 0, 0)) none) (cond (Nat.beq pc 180) (some (.athrow, 181, 0, 0, 0, 0)) none)) (cond (Nat.ble 177 pc) (cond (Nat.beq pc 177) (some (.invokevirtual 228, 180, 159, 0, 1239, 0)) none) (cond (Nat.beq pc 174) (some (.getfield 129, 177, 11, 10, 985, 0)) none)))) (cond (Nat.ble 167 pc) (cond (Nat.ble 171 pc) (cond (Nat.ble 172 pc) (cond (Nat.ble 173 pc) (cond (Nat.beq pc 173) (some (.aload_n 0, 174, 0, 0, 0, 0)) none) (cond (Nat.beq pc 172) (some (.iconst 2, 173, 0, 0, 0, 0)) none)) (cond (Nat.beq pc 171) (some (.aload_n 0, 172, 0, 0, 0, 0)) none)) (cond (Nat.ble 168 pc) (cond (Nat.beq pc 168) (some (.ifCond .ge 13, 171, 181, 0, 0, 0)) none) (cond (Nat.beq pc 167) (some (.iaload, 168, 0, 0, 0, 0)) none))) (cond (Nat.ble 163 pc) (cond (Nat.ble 166 pc) (cond (Nat.beq pc 166) (some (.iload_n 2, 167, 0, 0, 0, 0)) none) (cond (Nat.beq pc 163) (some (.getfield 59, 166, 11, 30, 1005, 0)) none)) (cond (Nat.ble 162 pc) (cond (Nat.beq pc 162) (some (.aload_n 0, 163, 0, 0, 0, 0)) none) (cond (Nat.beq pc 161) (some (.iastore, 162, 0, 0, 0, 0)) none))))) (cond (Nat.ble 144 pc) (cond (Nat.ble 152 pc) (cond (Nat.ble 154 pc) (cond (Nat.ble 155 pc) (cond (Nat.ble 158 pc) (cond (Nat.beq pc 158) (some (.invokevirtual 196, 161, 144, 0, 1178, 0)) none) (cond (Nat.beq pc 155) (some (.getfield 140, 158, 11, 13, 988, 0)) none)) (cond (Nat.beq pc 154) (some (.aload_n 0, 155, 0, 0, 0, 0)) none)) (cond (Nat.ble 153 pc) (cond (Nat.beq pc 153) (some (.aload_n 0, 154, 0, 0, 0, 0)) none) (cond (Nat.beq pc 152) (some (.iload_n 2, 153, 0, 0, 0, 0)) none))) (cond (Nat.ble 148 pc) (cond (Nat.ble 149 pc) (cond (Nat.beq pc 149) (some (.getfield 59, 152, 11, 30, 1005, 0)) none) (cond (Nat.beq pc 148) (some (.aload_n 0, 149, 0, 0, 0, 0)) none)) (cond (Nat.ble 147 pc) (cond (Nat.beq pc 147) (some (.athrow, 148, 0, 0, 0, 0)) none) (cond (Nat.beq pc 144) (some (.invokevirtual 228, 147, 159, 0, 1239, 0)) none)))) (cond (Nat.ble 135 pc) (cond (Nat.ble 139 pc) (cond (Nat.ble 140 pc) (cond (Nat.ble 141 pc) (cond (Nat.beq pc 141) (some (.getfield 129, 144, 11, 10, 985, 0)) none) (cond (Nat.beq pc 140) (some (.aload_n 0, 141, 0, 0, 0, 0)) none)) (cond (Nat.beq pc 139) (some (.iconst 1, 140, 0, 0, 0, 0)) none)) (cond (Nat.ble 138 pc) (cond (Nat.beq pc 138) (some (.aload_n 0, 139, 0, 0, 0, 0)) none) (cond (Nat.beq pc 135) (some (.if_icmp .eq 13, 138, 148, 0, 0, 0)) none))) (cond (Nat.ble 131 pc) (cond (Nat.ble 134 pc) (cond (Nat.beq pc 134) (some (.iconst 2, 135, 0, 0, 0, 0)) none) (cond (Nat.beq pc 131) (some (.getfield 130, 134, 11, 9, 984, 0)) none)) (cond (Nat.ble 130 pc) (cond (Nat.beq pc 130) (some (.aload_n 0, 131, 0, 0, 0, 0)) none) (cond (Nat.beq pc 127) (some (.invokevirtual 153, 130, 153, 0, 1214, 0)) none))))))) (cond (Nat.ble 64 pc) (cond (Nat.ble 96 pc) (cond (Nat.ble 111 pc) (cond (Nat.ble 118 pc) (cond (Nat.ble 122 pc) (cond (Nat.ble 125 pc) (cond (Nat.ble 126 pc) (cond (Nat.beq pc 126) (some (.aload_n 0, 127, 0, 0, 0, 0)) none) (cond (Nat.beq pc 125) (some (.athrow, 126, 0, 0, 0, 0)) none)) (cond (Nat.beq pc 122) (some (.invokevirtual 228, 125, 159, 0, 1239, 0)) none)) (cond (Nat.ble 119 pc) (cond (Nat.beq pc 119) (some (.getfield 129, 122, 11, 10, 985, 0)) none) (cond (Nat.beq pc 118) (some (.aload_n 0, 119, 0, 0, 0, 0)) none))) (cond (Nat.ble 113 pc) (cond (Nat.ble 116 pc) (cond (Nat.ble 117 pc) (cond (Nat.beq pc 117) (some (.iconst 2, 118, 0, 0, 0, 0)) none) (cond (Nat.beq pc 116) (some (.aload_n 0, 117, 0, 0, 0, 0)) none)) (cond (Nat.beq pc 113) (some (.if_icmp .eq 13, 116, 126, 0, 0, 0)) none)) (cond (Nat.ble 112 pc) (cond (Nat.beq pc 112) (some (.iload_n 1, 113, 0, 0, 0, 0)) none) (cond (Nat.beq pc 111) (some (.iaload, 112, 0, 0, 0, 0)) none)))) (cond (Nat.ble 102 pc) (cond (Nat.ble 106 pc) (cond (Nat.ble 109 pc) (cond (Nat.ble 110 pc) (cond (Nat.beq pc 110) (some (.iaload, 111, 0, 0, 0, 0)) none) (cond (Nat.beq pc 109) (some (.iload_n 2, 110, 0, 0, 0, 0)) none)) (cond (Nat.beq pc 106) (some (.getfield 56, 109, 11, 29, 1004, 0)) none)) (cond (Nat.ble 105 pc) (cond (Nat.beq pc 105) (some (.aload_n 0, 106, 0, 0, 0, 0)) none) (cond (Nat.beq pc 102) (some (.getfield 31, 105, 11, 19, 994, 0)) none))) (cond (Nat.ble 98 pc) (cond (Nat.ble 101 pc) (cond (Nat.beq pc 101) (some (.aload_n 0, 102, 0, 0, 0, 0)) none) (cond (Nat.beq pc 98) (some (.if_icmp .eq 28, 101, 126, 0, 0, 0)) none)) (cond (Nat.ble 97 pc) (cond (Nat.beq pc 97) (some (.iconst (-1), 98, 0, 0, 0, 0)) none) (cond (Nat.beq pc 96) (some (.iload_n 1, 97, 0, 0, 0, 0)) none))))) (cond (Nat.ble 79 pc) (cond (Nat.ble 87 pc) (cond (Nat.ble 91 pc) (cond (Nat.ble 92 pc) (cond (Nat.ble 93 pc) (cond (Nat.beq pc 93) (some (.ifCond .lt 23, 96, 116, 0, 0, 0)) none) (cond (Nat.beq pc 92) (some (.iaload, 93, 0, 0, 0, 0)) none)) (cond (Nat.beq pc 91) (some (.iload_n 2, 92, 0, 0, 0, 0)) none)) (cond (Nat.ble 88 pc) (cond (Nat.beq pc 88) (some (.getfield 56, 91, 11, 29, 1004, 0)) none) (cond (Nat.beq pc 87) (some (.aload_n 0, 88, 0, 0, 0, 0)) none))) (cond (Nat.ble 83 pc) (cond (Nat.ble 86 pc) (cond (Nat.beq pc 86) (some (.iastore, 87, 0, 0, 0, 0)) none) (cond (Nat.beq pc 83) (some (.invokevirtual 189, 86, 141, 0, 1166, 0)) none)) (cond (Nat.ble 80 pc) (cond (Nat.beq pc 80) (some (.getfield 140, 83, 11, 13, 988, 0)) none) (cond (Nat.beq pc 79) (some (.aload_n 0, 80, 0, 0, 0, 0)) none)))) (cond (Nat.ble 72 pc) (cond (Nat.ble 74 pc) (cond (Nat.ble 77 pc) (cond (Nat.ble 78 pc) (cond (Nat.beq pc 78) (some (.aload_n 0, 79, 0, 0, 0, 0)) none) (cond (Nat.beq pc 77) (some (.iload_n 2, 78, 0, 0, 0, 0)) none)) (cond (Nat.beq pc 74) (some (.getfield 56, 77, 11, 29, 1004, 0)) none)) (cond (Nat.ble 73 pc) (cond (Nat.beq pc 73) (some (.aload_n 0, 74, 0, 0, 0, 0)) none) (cond (Nat.beq pc 72) (some (.athrow, 73, 0, 0, 0, 0)) none))) (cond (Nat.ble 66 pc) (cond (Nat.ble 69 pc) (cond (Nat.beq pc 69) (some (.invokevirtual 228, 72, 159, 0, 1239, 0)) none) (cond (Nat.beq pc 66) (some (.getfield 129, 69, 11, 10, 985, 0)) none)) (cond (Nat.ble 65 pc) (cond (Nat.beq pc 65) (some (.aload_n 0, 66, 0, 0, 0, 0)) none) (cond (Nat.beq pc 64) (some (.iconst 1, 65, 0, 0, 0, 0)) none)))))) (cond (Nat.ble 31 pc) (cond (Nat.ble 47 pc) (cond (Nat.ble 55 pc) (cond (Nat.ble 59 pc) (cond (Nat.ble 60 pc) (cond (Nat.ble 63 pc) (cond (Nat.beq pc 63) (some (.aload_n 0, 64, 0, 0, 0, 0)) none) (cond (Nat.beq pc 60) (some (.if_icmp .eq 13, 63, 73, 0, 0, 0)) none)) (cond (Nat.beq pc 59) (some (.iconst 2, 60, 0, 0, 0, 0)) none)) (cond (Nat.ble 56 pc) (cond (Nat.beq pc 56) (some (.getfield 130, 59, 11, 9, 984, 0)) none) (cond (Nat.beq pc 55) (some (.aload_n 0, 56, 0, 0, 0, 0)) none))) (cond (Nat.ble 51 pc) (cond (Nat.ble 52 pc) (cond (Nat.beq pc 52) (some (.invokevirtual 153, 55, 153, 0, 1214, 0)) none) (cond (Nat.beq pc 51) (some (.aload_n 0, 52, 0, 0, 0, 0)) none)) (cond (Nat.ble 50 pc) (cond (Nat.beq pc 50) (some (.athrow, 51, 0, 0, 0, 0)) none) (cond (Nat.beq pc 47) (some (.invokevirtual 228, 50, 159, 0, 1239, 0)) none)))) (cond (Nat.ble 38 pc) (cond (Nat.ble 42 pc) (cond (Nat.ble 43 pc) (cond (Nat.ble 44 pc) (cond (Nat.beq pc 44) (some (.getfield 129, 47, 11, 10, 985, 0)) none) (cond (Nat.beq pc 43) (some (.aload_n 0, 44, 0, 0, 0, 0)) none)) (cond (Nat.beq pc 42) (some (.iconst 4, 43, 0, 0, 0, 0)) none)) (cond (Nat.ble 41 pc) (cond (Nat.beq pc 41) (some (.aload_n 0, 42, 0, 0, 0, 0)) none) (cond (Nat.beq pc 38) (some (.if_icmp .ne 13, 41, 51, 0, 0, 0)) none))) (cond (Nat.ble 35 pc) (cond (Nat.ble 37 pc) (cond (Nat.beq pc 37) (some (.iadd, 38, 0, 0, 0, 0)) none) (cond (Nat.beq pc 35) (some (.bipush 20, 37, 0, 0, 0, 0)) none)) (cond (Nat.ble 32 pc) (cond (Nat.beq pc 32) (some (.getfield 224, 35, 11, 23, 998, 0)) none) (cond (Nat.beq pc 31) (some (.aload_n 0, 32, 0, 0, 0, 0)) none))))) (cond (Nat.ble 14 pc) (cond (Nat.ble 22 pc) (cond (Nat.ble 26 pc) (cond (Nat.ble 29 pc) (cond (Nat.ble 30 pc) (cond (Nat.beq pc 30) (some (.iload_n 2, 31, 0, 0, 0, 0)) none) (cond (Nat.beq pc 29) (some (.athrow, 30, 0, 0, 0, 0)) none)) (cond (Nat.beq pc 26) (some (.invokevirtual 228, 29, 159, 0, 1239, 0)) none)) (cond (Nat.ble 23 pc) (cond (Nat.beq pc 23) (some (.getfield 129, 26, 11, 10, 985, 0)) none) (cond (Nat.beq pc 22) (some (.aload_n 0, 23, 0, 0, 0, 0)) none))) (cond (Nat.ble 20 pc) (cond (Nat.ble 21 pc) (cond (Nat.beq pc 21) (some (.iconst 1, 22, 0, 0, 0, 0)) none) (cond (Nat.beq pc 20) (some (.aload_n 0, 21, 0, 0, 0, 0)) none)) (cond (Nat.ble 17 pc) (cond (Nat.beq pc 17) (some (.ifCond .ne 13, 20, 30, 0, 0, 0)) none) (cond (Nat.beq pc 14) (some (.invokevirtual 212, 17, 157, 0, 1230, 0)) none)))) (cond (Nat.ble 6 pc) (cond (Nat.ble 8 pc) (cond (Nat.ble 11 pc) (cond (Nat.ble 12 pc) (cond (Nat.beq pc 12) (some (.ldc 227, 14, 1, 0, 1229, 0)) none) (cond (Nat.beq pc 11) (some (.aload_n 0, 12, 0, 0, 0, 0)) none)) (cond (Nat.beq pc 8) (some (.ifCond .eq 232, 11, 240, 0, 0, 0)) none)) (cond (Nat.ble 7 pc) (cond (Nat.beq pc 7) (some (.iload_n 3, 8, 0, 0, 0, 0)) none) (cond (Nat.beq pc 6) (some (.istore_n 3, 7, 0, 0, 0, 0)) none))) (cond (Nat.ble 4 pc) (cond (Nat.ble 5 pc) (cond (Nat.beq pc 5) (some (.iconst 1, 6, 0, 0, 0, 0)) none) (cond (Nat.beq pc 4) (some (.istore_n 2, 5, 0, 0, 0, 0)) none)) (cond (Nat.ble 1 pc) (cond (Nat.beq pc 1) (some (.getfield 224, 4, 11, 23, 998, 0)) none) (cond (Nat.beq pc 0) (some (.aload_n 0, 1, 0, 0, 0, 0)) none))))))))
def rc_157 (pc : Nat) : Option RI := cond (Nat.ble 26 pc) none (cond (Nat.ble 13 pc) (cond (Nat.ble 20 pc) (cond (Nat.ble 24 pc) (cond (Nat.ble 25 pc) (cond (Nat.beq pc 25) (some (.ireturn, 26, 0, 0, 0, 0)) none) (cond (Nat.beq pc 24) (some (.iconst 0, 25, 0, 0, 0, 0)) none)) (cond (Nat.ble 21 pc) (cond (Nat.beq pc 21) (some (.goto 4, 24, 25, 0, 0, 0)) none) (cond (Nat.beq pc 20) (some (.iconst 1, 21, 0, 0, 0, 0)) none))) (cond (Nat.ble 16 pc) (cond (Nat.ble 17 pc) (cond (Nat.beq pc 17) (some (.ifCond .ne 7, 20, 24, 0, 0, 0)) none) (cond (Nat.beq pc 16) (some (.lcmp, 17, 0, 0, 0, 0)) none)) (cond (Nat.beq pc 13) (some (.invokestatic 156, 16, 158, 0, 1234, 0)) none))) (cond (Nat.ble 5 pc) (cond (Nat.ble 9 pc) (cond (Nat.ble 12 pc) (cond (Nat.beq pc 12) (some (.aload_n 1, 13, 0, 0, 0, 0)) none) (cond (Nat.beq pc 9) (some (.getfield 140, 12, 11, 13, 988, 0)) none)) (cond (Nat.ble 8 pc) (cond (Nat.beq pc 8) (some (.aload_n 0, 9, 0, 0, 0, 0)) none) (cond (Nat.beq pc 5) (some (.if_icmp .ne 19, 8, 24, 0, 0, 0)) none))) (cond (Nat.ble 1 pc) (cond (Nat.ble 4 pc) (cond (Nat.beq pc 4) (some (.iconst 2, 5, 0, 0, 0, 0)) none) (cond (Nat.beq pc 1) (some (.getfield 130, 4, 11, 9, 984, 0)) none)) (cond (Nat.beq pc 0) (some (.aload_n 0, 1, 0, 0, 0, 0)) none))))
def rc_158 (pc : Nat) : Option RI := cond (Nat.ble 38 pc) none (cond (Nat.ble 18 pc) (cond (Nat.ble 27 pc) (cond (Nat.ble 30 pc) (cond (Nat.ble 36 pc) (cond (Nat.ble 37 pc) (cond (Nat.beq pc 37) (some (.lreturn, 38, 0, 0, 0, 0)) none) (cond (Nat.beq pc 36) (some (.lload_n 1, 37, 0, 0, 0, 0)) none)) (cond (Nat.ble 33 pc) (cond (Nat.beq pc 33) (some (.goto (-29), 36, 4, 0, 0, 0)) none) (cond (Nat.beq pc 30) (some (.iinc 3 1, 33, 0, 0, 0, 0)) none))) (cond (Nat.ble 28 pc) (cond (Nat.ble 29 pc) (cond (Nat.beq pc 29) (some (.lstore_n 1, 30, 0, 0, 0, 0)) none) (cond (Nat.beq pc 28) (some (.ladd, 29, 0, 0, 0, 0)) none)) (cond (Nat.beq pc 27) (some (.i2l, 28, 0, 0, 0, 0)) none))) (cond (Nat.ble 24 pc) (cond (Nat.ble 25 pc) (cond (Nat.ble 26 pc) (cond (Nat.beq pc 26) (some (.iadd, 27, 0, 0, 0, 0)) none) (cond (Nat.beq pc 25) (some (.iconst 1, 26, 0, 0, 0, 0)) none)) (cond (Nat.beq pc 24) (some (.isub, 25, 0, 0, 0, 0)) none)) (cond (Nat.ble 19 pc) (cond (Nat.ble 22 pc) (cond (Nat.beq pc 22) (some (.bipush 97, 24, 0, 0, 0, 0)) none) (cond (Nat.beq pc 19) (some (.invokevirtual 118, 22, 46, 0, 1238, 0)) none)) (cond (Nat.beq pc 18) (some (.iload_n 3, 19, 0, 0, 0, 0)) none)))) (cond (Nat.ble 6 pc) (cond (Nat.ble 15 pc) (cond (Nat.ble 16 pc) (cond (Nat.ble 17 pc) (cond (Nat.beq pc 17) (some (.aload_n 0, 18, 0, 0, 0, 0)) none) (cond (Nat.beq pc 16) (some (.lmul, 17, 0, 0, 0, 0)) none)) (cond (Nat.beq pc 15) (some (.lload_n 1, 16, 0, 0, 0, 0)) none)) (cond (Nat.ble 9 pc) (cond (Nat.ble 12 pc) (cond (Nat.beq pc 12) (some (.ldc2_w 116, 15, 0, 0, 1165, 32)) none) (cond (Nat.beq pc 9) (some (.if_icmp .ge 27, 12, 36, 0, 0, 0)) none)) (cond (Nat.beq pc 6) (some (.invokevirtual 110, 9, 44, 0, 1237, 0)) none))) (cond (Nat.ble 3 pc) (cond (Nat.ble 4 pc) (cond (Nat.ble 5 pc) (cond (Nat.beq pc 5) (some (.aload_n 0, 6, 0, 0, 0, 0)) none) (cond (Nat.beq pc 4) (some (.iload_n 3, 5, 0, 0, 0, 0)) none)) (cond (Nat.beq pc 3) (some (.istore_n 3, 4, 0, 0, 0, 0)) none)) (cond (Nat.ble 1 pc) (cond (Nat.ble 2 pc) (cond (Nat.beq pc 2) (some (.iconst 0, 3, 0, 0, 0, 0)) none) (cond (Nat.beq pc 1) (some (.lstore_n 1, 2, 0, 0, 0, 0)) none)) (cond (Nat.beq pc 0) (some (.lconst 0, 1, 0, 0, 0, 0)) none)))))
def rc_159 (pc : Nat) : Option RI := cond (Nat.ble 21 pc) none (cond (Nat.ble 9 pc) (cond (Nat.ble 16 pc) (cond (Nat.ble 17 pc) (cond (Nat.ble 20 pc) (cond (Nat.beq pc 20) (some (.areturn, 21, 0, 0, 0, 0)) none) (cond (Nat.beq pc 17) (some (.getfield 16, 20, 11, 4, 979, 0)) none)) (cond (Nat.beq pc 16) (some (.aload_n 0, 17, 0, 0, 0, 0)) none)) (cond (Nat.ble 12 pc) (cond (Nat.ble 13 pc) (cond (Nat.beq pc 13) (some (.putfield 104, 16, 10, 7, 957, 0)) none) (cond (Nat.beq pc 12) (some (.iload_n 2, 13, 0, 0, 0, 0)) none)) (cond (Nat.beq pc 9) (some (.getfield 16, 12, 11, 4, 979, 0)) none))) (cond (Nat.ble 4 pc) (cond (Nat.ble 5 pc) (cond (Nat.ble 8 pc) (cond (Nat.beq pc 8) (some (.aload_n 0, 9, 0, 0, 0, 0)) none) (cond (Nat.beq pc 5) (some (.putfield 101, 8, 10, 6, 956, 0)) none)) (cond (Nat.beq pc 4) (some (.iload_n 1, 5, 0, 0, 0, 0)) none)) (cond (Nat.ble 1 pc) (cond (Nat.beq pc 1) (some (.getfield 16, 4, 11, 4, 979, 0)) none) (cond (Nat.beq pc 0) (some (.aload_n 0, 1, 0, 0, 0, 0)) none))))
def rc_160 (pc : Nat) : Option RI := cond (Nat.ble 141 pc) none (cond (Nat.ble 72 pc) (cond (Nat.ble 107 pc) (cond (Nat.ble 122 pc) (cond (Nat.ble 130 pc) (cond (Nat.ble 136 pc) (cond (Nat.ble 137 pc) (cond (Nat.ble 140 pc) (cond (Nat.beq pc 140) (some (.return_, 141, 0, 0, 0, 0)) none) (cond (Nat.beq pc 137) (some (.goto (-109), 140, 28, 0, 0, 0)) none)) (cond (Nat.beq pc 136) (some (.istore_n 3, 137, 0, 0, 0, 0)) none)) (cond (Nat.ble 131 pc) (cond (Nat.ble 133 pc) (cond (Nat.beq pc 133) (some (.invokevirtual 240, 136, 162, 0, 1257, 0)) none) (cond (Nat.beq pc 131) (some (.bipush 44, 133, 0, 0, 0, 0)) none)) (cond (Nat.beq pc 130) (some (.aload_n 0, 131, 0, 0, 0, 0)) none))) (cond (Nat.ble 125 pc) (cond (Nat.ble 126 pc) (cond (Nat.ble 127 pc) (cond (Nat.beq pc 127) (some (.invokevirtual 153, 130, 153, 0, 1214, 0)) none) (cond (Nat.beq pc 126) (some (.aload_n 0, 127, 0, 0, 0, 0)) none)) (cond (Nat.beq pc 125) (some (.iastore, 126, 0, 0, 0, 0)) none)) (cond (Nat.ble 123 pc) (cond (Nat.beq pc 123) (some (.iload 4, 125, 0, 0, 0, 0)) none) (cond (Nat.beq pc 122) (some (.iadd, 123, 0, 0, 0, 0)) none)))) (cond (Nat.ble 113 pc) (cond (Nat.ble 118 pc) (cond (Nat.ble 119 pc) (cond (Nat.ble 120 pc) (cond (Nat.beq pc 120) (some (.iload 5, 122, 0, 0, 0, 0)) none) (cond (Nat.beq pc 119) (some (.imul, 120, 0, 0, 0, 0)) none)) (cond (Nat.beq pc 118) (some (.iload_n 1, 119, 0, 0, 0, 0)) none)) (cond (Nat.ble 114 pc) (cond (Nat.ble 117 pc) (cond (Nat.beq pc 117) (some (.iconst 5, 118, 0, 0, 0, 0)) none) (cond (Nat.beq pc 114) (some (.getfield 53, 117, 11, 28, 1003, 0)) none)) (cond (Nat.beq pc 113) (some (.aload_n 0, 114, 0, 0, 0, 0)) none))) (cond (Nat.ble 110 pc) (cond (Nat.ble 111 pc) (cond (Nat.ble 112 pc) (cond (Nat.beq pc 112) (some (.istore_n 2, 113, 0, 0, 0, 0)) none) (cond (Nat.beq pc 111) (some (.ior, 112, 0, 0, 0, 0)) none)) (cond (Nat.beq pc 110) (some (.ishl, 111, 0, 0, 0, 0)) none)) (cond (Nat.ble 108 pc) (cond (Nat.beq pc 108) (some (.iload 5, 110, 0, 0, 0, 0)) none) (cond (Nat.beq pc 107) (some (.iconst 1, 108, 0, 0, 0, 0)) none))))) (cond (Nat.ble 90 pc) (cond (Nat.ble 97 pc) (cond (Nat.ble 102 pc) (cond (Nat.ble 105 pc) (cond (Nat.ble 106 pc) (cond (Nat.beq pc 106) (some (.iload_n 2, 107, 0, 0, 0, 0)) none) (cond (Nat.beq pc 105) (some (.athrow, 106, 0, 0, 0, 0)) none)) (cond (Nat.beq pc 102) (some (.invokevirtual 228, 105, 159, 0, 1239, 0)) none)) (cond (Nat.ble 98 pc) (cond (Nat.ble 99 pc) (cond (Nat.beq pc 99) (some (.getfield 129, 102, 11, 10, 985, 0)) none) (cond (Nat.beq pc 98) (some (.aload_n 0, 99, 0, 0, 0, 0)) none)) (cond (Nat.beq pc 97) (some (.iconst 3, 98, 0, 0, 0, 0)) none))) (cond (Nat.ble 92 pc) (cond (Nat.ble 93 pc) (cond (Nat.ble 96 pc) (cond (Nat.beq pc 96) (some (.aload_n 0, 97, 0, 0, 0, 0)) none) (cond (Nat.beq pc 93) (some (.if_icmp .ne 13, 96, 106, 0, 0, 0)) none)) (cond (Nat.beq pc 92) (some (.iconst 1, 93, 0, 0, 0, 0)) none)) (cond (Nat.ble 91 pc) (cond (Nat.beq pc 91) (some (.iand, 92, 0, 0, 0, 0)) none) (cond (Nat.beq pc 90) (some (.iconst 1, 91, 0, 0, 0, 0)) none)))) (cond (Nat.ble 79 pc) (cond (Nat.ble 86 pc) (cond (Nat.ble 87 pc) (cond (Nat.ble 89 pc) (cond (Nat.beq pc 89) (some (.ishr, 90, 0, 0, 0, 0)) none) (cond (Nat.beq pc 87) (some (.iload 5, 89, 0, 0, 0, 0)) none)) (cond (Nat.beq pc 86) (some (.iload_n 2, 87, 0, 0, 0, 0)) none)) (cond (Nat.ble 82 pc) (cond (Nat.ble 85 pc) (cond (Nat.beq pc 85) (some (.athrow, 86, 0, 0, 0, 0)) none) (cond (Nat.beq pc 82) (some (.invokevirtual 228, 85, 159, 0, 1239, 0)) none)) (cond (Nat.beq pc 79) (some (.getfield 129, 82, 11, 10, 985, 0)) none))) (cond (Nat.ble 76 pc) (cond (Nat.ble 77 pc) (cond (Nat.ble 78 pc) (cond (Nat.beq pc 78) (some (.aload_n 0, 79, 0, 0, 0, 0)) none) (cond (Nat.beq pc 77) (some (.iconst 1, 78, 0, 0, 0, 0)) none)) (cond (Nat.beq pc 76) (some (.aload_n 0, 77, 0, 0, 0, 0)) none)) (cond (Nat.ble 73 pc) (cond (Nat.beq pc 73) (some (.if_icmp .ne 13, 76, 86, 0, 0, 0)) none) (cond (Nat.beq pc 72) (some (.iconst (-1), 73, 0, 0, 0, 0)) none)))))) (cond (Nat.ble 29 pc) (cond (Nat.ble 50 pc) (cond (Nat.ble 60 pc) (cond (Nat.ble 65 pc) (cond (Nat.ble 68 pc) (cond (Nat.ble 70 pc) (cond (Nat.beq pc 70) (some (.iload 5, 72, 0, 0, 0, 0)) none) (cond (Nat.beq pc 68) (some (.istore 5, 70, 0, 0, 0, 0)) none)) (cond (Nat.beq pc 65) (some (.invokevirtual 243, 68, 161, 0, 1248, 0)) none)) (cond (Nat.ble 61 pc) (cond (Nat.ble 64 pc) (cond (Nat.beq pc 64) (some (.aload_n 0, 65, 0, 0, 0, 0)) none) (cond (Nat.beq pc 61) (some (.invokevirtual 153, 64, 153, 0, 1214, 0)) none)) (cond (Nat.beq pc 60) (some (.aload_n 0, 61, 0, 0, 0, 0)) none))) (cond (Nat.ble 54 pc) (cond (Nat.ble 55 pc) (cond (Nat.ble 58 pc) (cond (Nat.beq pc 58) (some (.istore 4, 60, 0, 0, 0, 0)) none) (cond (Nat.beq pc 55) (some (.getfield 147, 58, 11, 12, 987, 0)) none)) (cond (Nat.beq pc 54) (some (.aload_n 0, 55, 0, 0, 0, 0)) none)) (cond (Nat.ble 53 pc) (cond (Nat.beq pc 53) (some (.athrow, 54, 0, 0, 0, 0)) none) (cond (Nat.beq pc 50) (some (.invokevirtual 228, 53, 159, 0, 1239, 0)) none)))) (cond (Nat.ble 40 pc) (cond (Nat.ble 45 pc) (cond (Nat.ble 46 pc) (cond (Nat.ble 47 pc) (cond (Nat.beq pc 47) (some (.getfield 129, 50, 11, 10, 985, 0)) none) (cond (Nat.beq pc 46) (some (.aload_n 0, 47, 0, 0, 0, 0)) none)) (cond (Nat.beq pc 45) (some (.iconst 1, 46, 0, 0, 0, 0)) none)) (cond (Nat.ble 41 pc) (cond (Nat.ble 44 pc) (cond (Nat.beq pc 44) (some (.aload_n 0, 45, 0, 0, 0, 0)) none) (cond (Nat.beq pc 41) (some (.if_icmp .eq 13, 44, 54, 0, 0, 0)) none)) (cond (Nat.beq pc 40) (some (.iconst 3, 41, 0, 0, 0, 0)) none))) (cond (Nat.ble 33 pc) (cond (Nat.ble 36 pc) (cond (Nat.ble 37 pc) (cond (Nat.beq pc 37) (some (.getfield 130, 40, 11, 9, 984, 0)) none) (cond (Nat.beq pc 36) (some (.aload_n 0, 37, 0, 0, 0, 0)) none)) (cond (Nat.beq pc 33) (some (.invokevirtual 153, 36, 153, 0, 1214, 0)) none)) (cond (Nat.ble 32 pc) (cond (Nat.beq pc 32) (some (.aload_n 0, 33, 0, 0, 0, 0)) none) (cond (Nat.beq pc 29) (some (.ifCond .eq 111, 32, 140, 0, 0, 0)) none))))) (cond (Nat.ble 14 pc) (cond (Nat.ble 19 pc) (cond (Nat.ble 26 pc) (cond (Nat.ble 27 pc) (cond (Nat.ble 28 pc) (cond (Nat.beq pc 28) (some (.iload_n 3, 29, 0, 0, 0, 0)) none) (cond (Nat.beq pc 27) (some (.istore_n 3, 28, 0, 0, 0, 0)) none)) (cond (Nat.beq pc 26) (some (.iconst 1, 27, 0, 0, 0, 0)) none)) (cond (Nat.ble 20 pc) (cond (Nat.ble 23 pc) (cond (Nat.beq pc 23) (some (.goto (-19), 26, 4, 0, 0, 0)) none) (cond (Nat.beq pc 20) (some (.iinc 3 1, 23, 0, 0, 0, 0)) none)) (cond (Nat.beq pc 19) (some (.iastore, 20, 0, 0, 0, 0)) none))) (cond (Nat.ble 16 pc) (cond (Nat.ble 17 pc) (cond (Nat.ble 18 pc) (cond (Nat.beq pc 18) (some (.iconst 0, 19, 0, 0, 0, 0)) none) (cond (Nat.beq pc 17) (some (.iadd, 18, 0, 0, 0, 0)) none)) (cond (Nat.beq pc 16) (some (.iload_n 3, 17, 0, 0, 0, 0)) none)) (cond (Nat.ble 15 pc) (cond (Nat.beq pc 15) (some (.imul, 16, 0, 0, 0, 0)) none) (cond (Nat.beq pc 14) (some (.iload_n 1, 15, 0, 0, 0, 0)) none)))) (cond (Nat.ble 5 pc) (cond (Nat.ble 9 pc) (cond (Nat.ble 10 pc) (cond (Nat.ble 13 pc) (cond (Nat.beq pc 13) (some (.iconst 5, 14, 0, 0, 0, 0)) none) (cond (Nat.beq pc 10) (some (.getfield 53, 13, 11, 28, 1003, 0)) none)) (cond (Nat.beq pc 9) (some (.aload_n 0, 10, 0, 0, 0, 0)) none)) (cond (Nat.ble 6 pc) (cond (Nat.beq pc 6) (some (.if_icmp .ge 20, 9, 26, 0, 0, 0)) none) (cond (Nat.beq pc 5) (some (.iconst 5, 6, 0, 0, 0, 0)) none))) (cond (Nat.ble 2 pc) (cond (Nat.ble 3 pc) (cond (Nat.ble 4 pc) (cond (Nat.beq pc 4) (some (.iload_n 3, 5, 0, 0, 0, 0)) none) (cond (Nat.beq pc 3) (some (.istore_n 3, 4, 0, 0, 0, 0)) none)) (cond (Nat.beq pc 2) (some (.iconst 0, 3, 0, 0, 0, 0)) none)) (cond (Nat.ble 1 pc) (cond (Nat.beq pc 1) (some (.istore_n 2, 2, 0, 0, 0, 0)) none) (cond (Nat.beq pc 0) (some (.iconst 0, 1, 0, 0, 0, 0)) none)))))))
def rc_161 (pc : Nat) : Option RI := cond (Nat.ble 67 pc) none (cond (Nat.ble 35 pc) (cond (Nat.ble 52 pc) (cond (Nat.ble 61 pc) (cond (Nat.ble 65 pc) (cond (Nat.ble 66 pc) (cond (Nat.beq pc 66) (some (.ireturn, 67, 0, 0, 0, 0)) none) (cond (Nat.beq pc 65) (some (.iconst (-1), 66, 0, 0, 0, 0)) none)) (cond (Nat.ble 62 pc) (cond (Nat.beq pc 62) (some (.goto 4, 65, 66, 0, 0, 0)) none) (cond (Nat.beq pc 61) (some (.iconst 4, 62, 0, 0, 0, 0)) none))) (cond (Nat.ble 55 pc) (cond (Nat.ble 58 pc) (cond (Nat.beq pc 58) (some (.ifCond .eq 7, 61, 65, 0, 0, 0)) none) (cond (Nat.beq pc 55) (some (.invokevirtual 212, 58, 157, 0, 1230, 0)) none)) (cond (Nat.ble 53 pc) (cond (Nat.beq pc 53) (some (.ldc 222, 55, 1, 6, 1256, 0)) none) (cond (Nat.beq pc 52) (some (.aload_n 0, 53, 0, 0, 0, 0)) none)))) (cond (Nat.ble 42 pc) (cond (Nat.ble 48 pc) (cond (Nat.ble 49 pc) (cond (Nat.beq pc 49) (some (.goto 17, 52, 66, 0, 0, 0)) none) (cond (Nat.beq pc 48) (some (.iconst 3, 49, 0, 0, 0, 0)) none)) (cond (Nat.ble 45 pc) (cond (Nat.beq pc 45) (some (.ifCond .eq 7, 48, 52, 0, 0, 0)) none) (cond (Nat.beq pc 42) (some (.invokevirtual 212, 45, 157, 0, 1230, 0)) none))) (cond (Nat.ble 39 pc) (cond (Nat.ble 40 pc) (cond (Nat.beq pc 40) (some (.ldc 220, 42, 1, 5, 1255, 0)) none) (cond (Nat.beq pc 39) (some (.aload_n 0, 40, 0, 0, 0, 0)) none)) (cond (Nat.ble 36 pc) (cond (Nat.beq pc 36) (some (.goto 30, 39, 66, 0, 0, 0)) none) (cond (Nat.beq pc 35) (some (.iconst 2, 36, 0, 0, 0, 0)) none))))) (cond (Nat.ble 16 pc) (cond (Nat.ble 26 pc) (cond (Nat.ble 29 pc) (cond (Nat.ble 32 pc) (cond (Nat.beq pc 32) (some (.ifCond .eq 7, 35, 39, 0, 0, 0)) none) (cond (Nat.beq pc 29) (some (.invokevirtual 212, 32, 157, 0, 1230, 0)) none)) (cond (Nat.ble 27 pc) (cond (Nat.beq pc 27) (some (.ldc 218, 29, 1, 4, 1254, 0)) none) (cond (Nat.beq pc 26) (some (.aload_n 0, 27, 0, 0, 0, 0)) none))) (cond (Nat.ble 22 pc) (cond (Nat.ble 23 pc) (cond (Nat.beq pc 23) (some (.goto 43, 26, 66, 0, 0, 0)) none) (cond (Nat.beq pc 22) (some (.iconst 1, 23, 0, 0, 0, 0)) none)) (cond (Nat.ble 19 pc) (cond (Nat.beq pc 19) (some (.ifCond .eq 7, 22, 26, 0, 0, 0)) none) (cond (Nat.beq pc 16) (some (.invokevirtual 212, 19, 157, 0, 1230, 0)) none)))) (cond (Nat.ble 9 pc) (cond (Nat.ble 13 pc) (cond (Nat.ble 14 pc) (cond (Nat.beq pc 14) (some (.ldc 216, 16, 1, 3, 1253, 0)) none) (cond (Nat.beq pc 13) (some (.aload_n 0, 14, 0, 0, 0, 0)) none)) (cond (Nat.ble 10 pc) (cond (Nat.beq pc 10) (some (.goto 56, 13, 66, 0, 0, 0)) none) (cond (Nat.beq pc 9) (some (.iconst 0, 10, 0, 0, 0, 0)) none))) (cond (Nat.ble 3 pc) (cond (Nat.ble 6 pc) (cond (Nat.beq pc 6) (some (.ifCond .eq 7, 9, 13, 0, 0, 0)) none) (cond (Nat.beq pc 3) (some (.invokevirtual 212, 6, 157, 0, 1230, 0)) none)) (cond (Nat.ble 1 pc) (cond (Nat.beq pc 1) (some (.ldc 210, 3, 1, 2, 1252, 0)) none) (cond (Nat.beq pc 0) (some (.aload_n 0, 1, 0, 0, 0, 0)) none))))))
def rc_162 (pc : Nat) : Option RI := cond (Nat.ble 22 pc) none (cond (Nat.ble 12 pc) (cond (Nat.ble 17 pc) (cond (Nat.ble 20 pc) (cond (Nat.ble 21 pc) (cond (Nat.beq pc 21) (some (.ireturn, 22, 0, 0, 0, 0)) none) (cond (Nat.beq pc 20) (some (.iconst 0, 21, 0, 0, 0, 0)) none)) (cond (Nat.beq pc 17) (some (.goto 4, 20, 21, 0, 0, 0)) none)) (cond (Nat.ble 13 pc) (cond (Nat.ble 16 pc) (cond (Nat.beq pc 16) (some (.iconst 1, 17, 0, 0, 0, 0)) none) (cond (Nat.beq pc 13) (some (.if_icmp .ne 7, 16, 20, 0, 0, 0)) none)) (cond (Nat.beq pc 12) (some (.iload_n 1, 13, 0, 0, 0, 0)) none))) (cond (Nat.ble 5 pc) (cond (Nat.ble 8 pc) (cond (Nat.ble 9 pc) (cond (Nat.beq pc 9) (some (.getfield 133, 12, 11, 11, 986, 0)) none) (cond (Nat.beq pc 8) (some (.aload_n 0, 9, 0, 0, 0, 0)) none)) (cond (Nat.beq pc 5) (some (.if_icmp .ne 15, 8, 20, 0, 0, 0)) none)) (cond (Nat.ble 1 pc) (cond (Nat.ble 4 pc) (cond (Nat.beq pc 4) (some (.iconst 4, 5, 0, 0, 0, 0)) none) (cond (Nat.beq pc 1) (some (.getfield 130, 4, 11, 9, 984, 0)) none)) (cond (Nat.beq pc 0) (some (.aload_n 0, 1, 0, 0, 0, 0)) none))))
def rc_163 (pc : Nat) : Option RI := cond (Nat.ble 41 pc) none (cond (Nat.ble 20 pc) (cond (Nat.ble 32 pc) (cond (Nat.ble 35 pc) (cond (Nat.ble 37 pc) (cond (Nat.ble 40 pc) (cond (Nat.beq pc 40) (some (.ireturn, 41, 0, 0, 0, 0)) none) (cond (Nat.beq pc 37) (some (.invokevirtual 255, 40, 151, 0, 1206, 0)) none)) (cond (Nat.ble 36 pc) (cond (Nat.beq pc 36) (some (.iload_n 2, 37, 0, 0, 0, 0)) none) (cond (Nat.beq pc 35) (some (.iload_n 1, 36, 0, 0, 0, 0)) none))) (cond (Nat.ble 33 pc) (cond (Nat.ble 34 pc) (cond (Nat.beq pc 34) (some (.iconst (-1), 35, 0, 0, 0, 0)) none) (cond (Nat.beq pc 33) (some (.aload_n 0, 34, 0, 0, 0, 0)) none)) (cond (Nat.beq pc 32) (some (.ireturn, 33, 0, 0, 0, 0)) none))) (cond (Nat.ble 27 pc) (cond (Nat.ble 28 pc) (cond (Nat.ble 29 pc) (cond (Nat.beq pc 29) (some (.invokevirtual 173, 32, 133, 0, 1135, 0)) none) (cond (Nat.beq pc 28) (some (.iconst 2, 29, 0, 0, 0, 0)) none)) (cond (Nat.beq pc 27) (some (.aload_n 0, 28, 0, 0, 0, 0)) none)) (cond (Nat.ble 21 pc) (cond (Nat.ble 24 pc) (cond (Nat.beq pc 24) (some (.ifCond .ne 9, 27, 33, 0, 0, 0)) none) (cond (Nat.beq pc 21) (some (.invokevirtual 182, 24, 138, 0, 1154, 0)) none)) (cond (Nat.beq pc 20) (some (.iload_n 2, 21, 0, 0, 0, 0)) none)))) (cond (Nat.ble 10 pc) (cond (Nat.ble 15 pc) (cond (Nat.ble 18 pc) (cond (Nat.ble 19 pc) (cond (Nat.beq pc 19) (some (.aload_n 0, 20, 0, 0, 0, 0)) none) (cond (Nat.beq pc 18) (some (.ireturn, 19, 0, 0, 0, 0)) none)) (cond (Nat.beq pc 15) (some (.invokevirtual 173, 18, 133, 0, 1135, 0)) none)) (cond (Nat.ble 13 pc) (cond (Nat.ble 14 pc) (cond (Nat.beq pc 14) (some (.iconst 1, 15, 0, 0, 0, 0)) none) (cond (Nat.beq pc 13) (some (.aload_n 0, 14, 0, 0, 0, 0)) none)) (cond (Nat.beq pc 10) (some (.ifCond .ne 9, 13, 19, 0, 0, 0)) none))) (cond (Nat.ble 5 pc) (cond (Nat.ble 6 pc) (cond (Nat.ble 7 pc) (cond (Nat.beq pc 7) (some (.invokevirtual 193, 10, 143, 0, 1174, 0)) none) (cond (Nat.beq pc 6) (some (.iload_n 1, 7, 0, 0, 0, 0)) none)) (cond (Nat.beq pc 5) (some (.aload_n 0, 6, 0, 0, 0, 0)) none)) (cond (Nat.ble 1 pc) (cond (Nat.ble 2 pc) (cond (Nat.beq pc 2) (some (.putfield 95, 5, 11, 0, 975, 0)) none) (cond (Nat.beq pc 1) (some (.iconst 0, 2, 0, 0, 0, 0)) none)) (cond (Nat.beq pc 0) (some (.aload_n 0, 1, 0, 0, 0, 0)) none)))))
def rc_164 (pc : Nat) : Option RI := cond (Nat.ble 10 pc) none (cond (Nat.ble 5 pc) (cond (Nat.ble 6 pc) (cond (Nat.ble 9 pc) (cond (Nat.beq pc 9) (some (.ireturn, 10, 0, 0, 0, 0)) none) (cond (Nat.beq pc 6) (some (.getfield 246, 9, 11, 3, 978, 0)) none)) (cond (Nat.beq pc 5) (some (.aload_n 0, 6, 0, 0, 0, 0)) none)) (cond (Nat.ble 1 pc) (cond (Nat.ble 2 pc) (cond (Nat.beq pc 2) (some (.putfield 95, 5, 11, 0, 975, 0)) none) (cond (Nat.beq pc 1) (some (.iconst 0, 2, 0, 0, 0, 0)) none)) (cond (Nat.beq pc 0) (some (.aload_n 0, 1, 0, 0, 0, 0)) none)))
def rc_165 (pc : Nat) : Option RI := cond (Nat.ble 10 pc) none (cond (Nat.ble 5 pc) (cond (Nat.ble 6 pc) (cond (Nat.ble 9 pc) (cond (Nat.beq pc 9) (some (.ireturn, 10, 0, 0, 0, 0)) none) (cond (Nat.beq pc 6) (some (.getfield 9, 9, 11, 2, 977, 0)) none)) (cond (Nat.beq pc 5) (some (.aload_n 0, 6, 0, 0, 0, 0)) none)) (cond (Nat.ble 1 pc) (cond (Nat.ble 2 pc) (cond (Nat.beq pc 2) (some (.putfield 95, 5, 11, 0, 975, 0)) none) (cond (Nat.beq pc 1) (some (.iconst 0, 2, 0, 0, 0, 0)) none)) (cond (Nat.beq pc 0) (some (.aload_n 0, 1, 0, 0, 0, 0)) none)))
def rc_166 (pc : Nat) : Option RI := cond (Nat.ble 85 pc) none (cond (Nat.ble 39 pc) (cond (Nat.ble 63 pc) (cond (Nat.ble 74 pc) (cond (Nat.ble 79 pc) (cond (Nat.ble 83 pc) (cond (Nat.ble 84 pc) (cond (Nat.beq pc 84) (some (.ireturn, 85, 0, 0, 0, 0)) none) (cond (Nat.beq pc 83) (some (.iconst (-1), 84, 0, 0, 0, 0)) none)) (cond (Nat.ble 80 pc) (cond (Nat.beq pc 80) (some (.goto 4, 83, 84, 0, 0, 0)) none) (cond (Nat.beq pc 79) (some (.iaload, 80, 0, 0, 0, 0)) none))) (cond (Nat.ble 75 pc) (cond (Nat.ble 78 pc) (cond (Nat.beq pc 78) (some (.iload_n 1, 79, 0, 0, 0, 0)) none) (cond (Nat.beq pc 75) (some (.getfield 62, 78, 11, 31, 1006, 0)) none)) (cond (Nat.beq pc 74) (some (.aload_n 0, 75, 0, 0, 0, 0)) none))) (cond (Nat.ble 68 pc) (cond (Nat.ble 69 pc) (cond (Nat.ble 71 pc) (cond (Nat.beq pc 71) (some (.if_icmp .ne 12, 74, 83, 0, 0, 0)) none) (cond (Nat.beq pc 69) (some (.bipush 7, 71, 0, 0, 0, 0)) none)) (cond (Nat.beq pc 68) (some (.iload_n 2, 69, 0, 0, 0, 0)) none)) (cond (Nat.ble 64 pc) (cond (Nat.ble 65 pc) (cond (Nat.beq pc 65) (some (.goto 19, 68, 84, 0, 0, 0)) none) (cond (Nat.beq pc 64) (some (.iaload, 65, 0, 0, 0, 0)) none)) (cond (Nat.beq pc 63) (some (.iload_n 1, 64, 0, 0, 0, 0)) none)))) (cond (Nat.ble 49 pc) (cond (Nat.ble 54 pc) (cond (Nat.ble 59 pc) (cond (Nat.ble 60 pc) (cond (Nat.beq pc 60) (some (.getfield 59, 63, 11, 30, 1005, 0)) none) (cond (Nat.beq pc 59) (some (.aload_n 0, 60, 0, 0, 0, 0)) none)) (cond (Nat.ble 56 pc) (cond (Nat.beq pc 56) (some (.if_icmp .ne 12, 59, 68, 0, 0, 0)) none) (cond (Nat.beq pc 54) (some (.bipush 6, 56, 0, 0, 0, 0)) none))) (cond (Nat.ble 50 pc) (cond (Nat.ble 53 pc) (cond (Nat.beq pc 53) (some (.iload_n 2, 54, 0, 0, 0, 0)) none) (cond (Nat.beq pc 50) (some (.goto 34, 53, 84, 0, 0, 0)) none)) (cond (Nat.beq pc 49) (some (.iaload, 50, 0, 0, 0, 0)) none))) (cond (Nat.ble 44 pc) (cond (Nat.ble 45 pc) (cond (Nat.ble 48 pc) (cond (Nat.beq pc 48) (some (.iload_n 1, 49, 0, 0, 0, 0)) none) (cond (Nat.beq pc 45) (some (.getfield 56, 48, 11, 29, 1004, 0)) none)) (cond (Nat.beq pc 44) (some (.aload_n 0, 45, 0, 0, 0, 0)) none)) (cond (Nat.ble 40 pc) (cond (Nat.ble 41 pc) (cond (Nat.beq pc 41) (some (.if_icmp .ne 12, 44, 53, 0, 0, 0)) none) (cond (Nat.beq pc 40) (some (.iconst 5, 41, 0, 0, 0, 0)) none)) (cond (Nat.beq pc 39) (some (.iload_n 2, 40, 0, 0, 0, 0)) none))))) (cond (Nat.ble 20 pc) (cond (Nat.ble 32 pc) (cond (Nat.ble 35 pc) (cond (Nat.ble 37 pc) (cond (Nat.ble 38 pc) (cond (Nat.beq pc 38) (some (.ireturn, 39, 0, 0, 0, 0)) none) (cond (Nat.beq pc 37) (some (.iaload, 38, 0, 0, 0, 0)) none)) (cond (Nat.ble 36 pc) (cond (Nat.beq pc 36) (some (.iadd, 37, 0, 0, 0, 0)) none) (cond (Nat.beq pc 35) (some (.iload_n 2, 36, 0, 0, 0, 0)) none))) (cond (Nat.ble 33 pc) (cond (Nat.ble 34 pc) (cond (Nat.beq pc 34) (some (.imul, 35, 0, 0, 0, 0)) none) (cond (Nat.beq pc 33) (some (.iload_n 1, 34, 0, 0, 0, 0)) none)) (cond (Nat.beq pc 32) (some (.iconst 5, 33, 0, 0, 0, 0)) none))) (cond (Nat.ble 25 pc) (cond (Nat.ble 28 pc) (cond (Nat.ble 29 pc) (cond (Nat.beq pc 29) (some (.getfield 53, 32, 11, 28, 1003, 0)) none) (cond (Nat.beq pc 28) (some (.aload_n 0, 29, 0, 0, 0, 0)) none)) (cond (Nat.beq pc 25) (some (.ifCond .eq 14, 28, 39, 0, 0, 0)) none)) (cond (Nat.ble 21 pc) (cond (Nat.ble 22 pc) (cond (Nat.beq pc 22) (some (.invokestatic 160, 25, 137, 0, 1151, 0)) none) (cond (Nat.beq pc 21) (some (.iconst 4, 22, 0, 0, 0, 0)) none)) (cond (Nat.beq pc 20) (some (.iconst 0, 21, 0, 0, 0, 0)) none)))) (cond (Nat.ble 10 pc) (cond (Nat.ble 17 pc) (cond (Nat.ble 18 pc) (cond (Nat.ble 19 pc) (cond (Nat.beq pc 19) (some (.iload_n 2, 20, 0, 0, 0, 0)) none) (cond (Nat.beq pc 18) (some (.ireturn, 19, 0, 0, 0, 0)) none)) (cond (Nat.beq pc 17) (some (.iconst (-1), 18, 0, 0, 0, 0)) none)) (cond (Nat.ble 11 pc) (cond (Nat.ble 14 pc) (cond (Nat.beq pc 14) (some (.if_icmp .lt 5, 17, 19, 0, 0, 0)) none) (cond (Nat.beq pc 11) (some (.getfield 224, 14, 11, 23, 998, 0)) none)) (cond (Nat.beq pc 10) (some (.aload_n 0, 11, 0, 0, 0, 0)) none))) (cond (Nat.ble 5 pc) (cond (Nat.ble 6 pc) (cond (Nat.ble 9 pc) (cond (Nat.beq pc 9) (some (.iload_n 1, 10, 0, 0, 0, 0)) none) (cond (Nat.beq pc 6) (some (.ifCond .lt 11, 9, 17, 0, 0, 0)) none)) (cond (Nat.beq pc 5) (some (.iload_n 1, 6, 0, 0, 0, 0)) none)) (cond (Nat.ble 1 pc) (cond (Nat.ble 2 pc) (cond (Nat.beq pc 2) (some (.putfield 95, 5, 11, 0, 975, 0)) none) (cond (Nat.beq pc 1) (some (.iconst 0, 2, 0, 0, 0, 0)) none)) (cond (Nat.beq pc 0) (some (.aload_n 0, 1, 0, 0, 0, 0)) none))))))
def rc_167 (pc : Nat) : Option RI := cond (Nat.ble 82 pc) none (cond (Nat.ble 58 pc) (cond (Nat.ble 71 pc) (cond (Nat.ble 77 pc) (cond (Nat.ble 79 pc) (cond (Nat.ble 80 pc) (cond (Nat.ble 81 pc) (cond (Nat.beq pc 81) (some (.ireturn, 82, 0, 0, 0, 0)) none) (cond (Nat.beq pc 80) (some (.iconst (-1), 81, 0, 0, 0, 0)) none)) (cond (Nat.beq pc 79) (some (.ireturn, 80, 0, 0, 0, 0)) none)) (cond (Nat.ble 78 pc) (cond (Nat.beq pc 78) (some (.iaload, 79, 0, 0, 0, 0)) none) (cond (Nat.beq pc 77) (some (.iload_n 1, 78, 0, 0, 0, 0)) none))) (cond (Nat.ble 73 pc) (cond (Nat.ble 74 pc) (cond (Nat.beq pc 74) (some (.getfield 47, 77, 11, 26, 1001, 0)) none) (cond (Nat.beq pc 73) (some (.aload_n 0, 74, 0, 0, 0, 0)) none)) (cond (Nat.ble 72 pc) (cond (Nat.beq pc 72) (some (.ireturn, 73, 0, 0, 0, 0)) none) (cond (Nat.beq pc 71) (some (.iaload, 72, 0, 0, 0, 0)) none)))) (cond (Nat.ble 64 pc) (cond (Nat.ble 66 pc) (cond (Nat.ble 67 pc) (cond (Nat.ble 70 pc) (cond (Nat.beq pc 70) (some (.iload_n 1, 71, 0, 0, 0, 0)) none) (cond (Nat.beq pc 67) (some (.getfield 50, 70, 11, 27, 1002, 0)) none)) (cond (Nat.beq pc 66) (some (.aload_n 0, 67, 0, 0, 0, 0)) none)) (cond (Nat.ble 65 pc) (cond (Nat.beq pc 65) (some (.ireturn, 66, 0, 0, 0, 0)) none) (cond (Nat.beq pc 64) (some (.iaload, 65, 0, 0, 0, 0)) none))) (cond (Nat.ble 60 pc) (cond (Nat.ble 63 pc) (cond (Nat.beq pc 63) (some (.iload_n 1, 64, 0, 0, 0, 0)) none) (cond (Nat.beq pc 60) (some (.getfield 44, 63, 11, 25, 1000, 0)) none)) (cond (Nat.ble 59 pc) (cond (Nat.beq pc 59) (some (.aload_n 0, 60, 0, 0, 0, 0)) none) (cond (Nat.beq pc 58) (some (.ireturn, 59, 0, 0, 0, 0)) none))))) (cond (Nat.ble 14 pc) (cond (Nat.ble 20 pc) (cond (Nat.ble 53 pc) (cond (Nat.ble 56 pc) (cond (Nat.ble 57 pc) (cond (Nat.beq pc 57) (some (.iaload, 58, 0, 0, 0, 0)) none) (cond (Nat.beq pc 56) (some (.iload_n 1, 57, 0, 0, 0, 0)) none)) (cond (Nat.beq pc 53) (some (.getfield 41, 56, 11, 24, 999, 0)) none)) (cond (Nat.ble 52 pc) (cond (Nat.beq pc 52) (some (.aload_n 0, 53, 0, 0, 0, 0)) none) (cond (Nat.beq pc 20) (some (.tableswitch 60 0 3 #[32, 39, 46, 53], 52, 0, 0, 0, 0)) none))) (cond (Nat.ble 18 pc) (cond (Nat.ble 19 pc) (cond (Nat.beq pc 19) (some (.iload_n 2, 20, 0, 0, 0, 0)) none) (cond (Nat.beq pc 18) (some (.ireturn, 19, 0, 0, 0, 0)) none)) (cond (Nat.ble 17 pc) (cond (Nat.beq pc 17) (some (.iconst (-1), 18, 0, 0, 0, 0)) none) (cond (Nat.beq pc 14) (some (.if_icmp .lt 5, 17, 19, 0, 0, 0)) none)))) (cond (Nat.ble 6 pc) (cond (Nat.ble 10 pc) (cond (Nat.ble 11 pc) (cond (Nat.beq pc 11) (some (.getfield 237, 14, 11, 22, 997, 0)) none) (cond (Nat.beq pc 10) (some (.aload_n 0, 11, 0, 0, 0, 0)) none)) (cond (Nat.ble 9 pc) (cond (Nat.beq pc 9) (some (.iload_n 1, 10, 0, 0, 0, 0)) none) (cond (Nat.beq pc 6) (some (.ifCond .lt 11, 9, 17, 0, 0, 0)) none))) (cond (Nat.ble 2 pc) (cond (Nat.ble 5 pc) (cond (Nat.beq pc 5) (some (.iload_n 1, 6, 0, 0, 0, 0)) none) (cond (Nat.beq pc 2) (some (.putfield 95, 5, 11, 0, 975, 0)) none)) (cond (Nat.ble 1 pc) (cond (Nat.beq pc 1) (some (.iconst 0, 2, 0, 0, 0, 0)) none) (cond (Nat.beq pc 0) (some (.aload_n 0, 1, 0, 0, 0, 0)) none))))))
def rc_168 (pc : Nat) : Option RI := cond (Nat.ble 23 pc) none (cond (Nat.ble 10 pc) (cond (Nat.ble 15 pc) (cond (Nat.ble 21 pc) (cond (Nat.ble 22 pc) (cond (Nat.beq pc 22) (some (.ireturn, 23, 0, 0, 0, 0)) none) (cond (Nat.beq pc 21) (some (.iconst (-1), 22, 0, 0, 0, 0)) none)) (cond (Nat.ble 18 pc) (cond (Nat.beq pc 18) (some (.goto 4, 21, 22, 0, 0, 0)) none) (cond (Nat.beq pc 15) (some (.invokevirtual 265, 18, 170, 0, 1289, 0)) none))) (cond (Nat.ble 13 pc) (cond (Nat.ble 14 pc) (cond (Nat.beq pc 14) (some (.iload_n 1, 15, 0, 0, 0, 0)) none) (cond (Nat.beq pc 13) (some (.aload_n 0, 14, 0, 0, 0, 0)) none)) (cond (Nat.beq pc 10) (some (.ifCond .eq 11, 13, 21, 0, 0, 0)) none))) (cond (Nat.ble 5 pc) (cond (Nat.ble 6 pc) (cond (Nat.ble 7 pc) (cond (Nat.beq pc 7) (some (.invokevirtual 262, 10, 169, 0, 1285, 0)) none) (cond (Nat.beq pc 6) (some (.iload_n 1, 7, 0, 0, 0, 0)) none)) (cond (Nat.beq pc 5) (some (.aload_n 0, 6, 0, 0, 0, 0)) none)) (cond (Nat.ble 1 pc) (cond (Nat.ble 2 pc) (cond (Nat.beq pc 2) (some (.putfield 95, 5, 11, 0, 975, 0)) none) (cond (Nat.beq pc 1) (some (.iconst 0, 2, 0, 0, 0, 0)) none)) (cond (Nat.beq pc 0) (some (.aload_n 0, 1, 0, 0, 0, 0)) none))))
def rc_169 (pc : Nat) : Option RI := cond (Nat.ble 18 pc) none (cond (Nat.ble 9 pc) (cond (Nat.ble 13 pc) (cond (Nat.ble 16 pc) (cond (Nat.ble 17 pc) (cond (Nat.beq pc 17) (some (.ireturn, 18, 0, 0, 0, 0)) none) (cond (Nat.beq pc 16) (some (.iconst 0, 17, 0, 0, 0, 0)) none)) (cond (Nat.beq pc 13) (some (.goto 4, 16, 17, 0, 0, 0)) none)) (cond (Nat.ble 12 pc) (cond (Nat.beq pc 12) (some (.iconst 1, 13, 0, 0, 0, 0)) none) (cond (Nat.beq pc 9) (some (.if_icmp .ge 7, 12, 16, 0, 0, 0)) none))) (cond (Nat.ble 4 pc) (cond (Nat.ble 5 pc) (cond (Nat.ble 6 pc) (cond (Nat.beq pc 6) (some (.getfield 167, 9, 11, 15, 990, 0)) none) (cond (Nat.beq pc 5) (some (.aload_n 0, 6, 0, 0, 0, 0)) none)) (cond (Nat.beq pc 4) (some (.iload_n 1, 5, 0, 0, 0, 0)) none)) (cond (Nat.ble 1 pc) (cond (Nat.beq pc 1) (some (.ifCond .lt 15, 4, 16, 0, 0, 0)) none) (cond (Nat.beq pc 0) (some (.iload_n 1, 1, 0, 0, 0, 0)) none))))
def rc_170 (pc : Nat) : Option RI := cond (Nat.ble 53 pc) none (cond (Nat.ble 26 pc) (cond (Nat.ble 38 pc) (cond (Nat.ble 44 pc) (cond (Nat.ble 48 pc) (cond (Nat.ble 51 pc) (cond (Nat.ble 52 pc) (cond (Nat.beq pc 52) (some (.ireturn, 53, 0, 0, 0, 0)) none) (cond (Nat.beq pc 51) (some (.iload_n 2, 52, 0, 0, 0, 0)) none)) (cond (Nat.beq pc 48) (some (.goto (-44), 51, 4, 0, 0, 0)) none)) (cond (Nat.ble 45 pc) (cond (Nat.beq pc 45) (some (.iinc 3 1, 48, 0, 0, 0, 0)) none) (cond (Nat.beq pc 44) (some (.istore_n 2, 45, 0, 0, 0, 0)) none))) (cond (Nat.ble 42 pc) (cond (Nat.ble 43 pc) (cond (Nat.beq pc 43) (some (.iadd, 44, 0, 0, 0, 0)) none) (cond (Nat.beq pc 42) (some (.iconst 0, 43, 0, 0, 0, 0)) none)) (cond (Nat.ble 39 pc) (cond (Nat.beq pc 39) (some (.goto 4, 42, 43, 0, 0, 0)) none) (cond (Nat.beq pc 38) (some (.iaload, 39, 0, 0, 0, 0)) none)))) (cond (Nat.ble 32 pc) (cond (Nat.ble 36 pc) (cond (Nat.ble 37 pc) (cond (Nat.beq pc 37) (some (.imul, 38, 0, 0, 0, 0)) none) (cond (Nat.beq pc 36) (some (.iload_n 3, 37, 0, 0, 0, 0)) none)) (cond (Nat.ble 35 pc) (cond (Nat.beq pc 35) (some (.iconst 5, 36, 0, 0, 0, 0)) none) (cond (Nat.beq pc 32) (some (.getfield 53, 35, 11, 28, 1003, 0)) none))) (cond (Nat.ble 28 pc) (cond (Nat.ble 31 pc) (cond (Nat.beq pc 31) (some (.aload_n 0, 32, 0, 0, 0, 0)) none) (cond (Nat.beq pc 28) (some (.if_icmp .ne 14, 31, 42, 0, 0, 0)) none)) (cond (Nat.ble 27 pc) (cond (Nat.beq pc 27) (some (.iload_n 1, 28, 0, 0, 0, 0)) none) (cond (Nat.beq pc 26) (some (.iaload, 27, 0, 0, 0, 0)) none))))) (cond (Nat.ble 12 pc) (cond (Nat.ble 18 pc) (cond (Nat.ble 22 pc) (cond (Nat.ble 25 pc) (cond (Nat.beq pc 25) (some (.iload_n 3, 26, 0, 0, 0, 0)) none) (cond (Nat.beq pc 22) (some (.getfield 56, 25, 11, 29, 1004, 0)) none)) (cond (Nat.ble 21 pc) (cond (Nat.beq pc 21) (some (.aload_n 0, 22, 0, 0, 0, 0)) none) (cond (Nat.beq pc 18) (some (.ifCond .eq 24, 21, 42, 0, 0, 0)) none))) (cond (Nat.ble 14 pc) (cond (Nat.ble 15 pc) (cond (Nat.beq pc 15) (some (.invokevirtual 259, 18, 171, 0, 1293, 0)) none) (cond (Nat.beq pc 14) (some (.iload_n 3, 15, 0, 0, 0, 0)) none)) (cond (Nat.ble 13 pc) (cond (Nat.beq pc 13) (some (.aload_n 0, 14, 0, 0, 0, 0)) none) (cond (Nat.beq pc 12) (some (.iload_n 2, 13, 0, 0, 0, 0)) none)))) (cond (Nat.ble 4 pc) (cond (Nat.ble 6 pc) (cond (Nat.ble 9 pc) (cond (Nat.beq pc 9) (some (.if_icmp .ge 42, 12, 51, 0, 0, 0)) none) (cond (Nat.beq pc 6) (some (.getfield 224, 9, 11, 23, 998, 0)) none)) (cond (Nat.ble 5 pc) (cond (Nat.beq pc 5) (some (.aload_n 0, 6, 0, 0, 0, 0)) none) (cond (Nat.beq pc 4) (some (.iload_n 3, 5, 0, 0, 0, 0)) none))) (cond (Nat.ble 2 pc) (cond (Nat.ble 3 pc) (cond (Nat.beq pc 3) (some (.istore_n 3, 4, 0, 0, 0, 0)) none) (cond (Nat.beq pc 2) (some (.iconst 0, 3, 0, 0, 0, 0)) none)) (cond (Nat.ble 1 pc) (cond (Nat.beq pc 1) (some (.istore_n 2, 2, 0, 0, 0, 0)) none) (cond (Nat.beq pc 0) (some (.iconst 0, 1, 0, 0, 0, 0)) none))))))
def rc_171 (pc : Nat) : Option RI := cond (Nat.ble 21 pc) none (cond (Nat.ble 10 pc) (cond (Nat.ble 15 pc) (cond (Nat.ble 19 pc) (cond (Nat.ble 20 pc) (cond (Nat.beq pc 20) (some (.ireturn, 21, 0, 0, 0, 0)) none) (cond (Nat.beq pc 19) (some (.iconst 0, 20, 0, 0, 0, 0)) none)) (cond (Nat.ble 16 pc) (cond (Nat.beq pc 16) (some (.goto 4, 19, 20, 0, 0, 0)) none) (cond (Nat.beq pc 15) (some (.iconst 1, 16, 0, 0, 0, 0)) none))) (cond (Nat.ble 11 pc) (cond (Nat.ble 12 pc) (cond (Nat.beq pc 12) (some (.if_icmp .eq 7, 15, 19, 0, 0, 0)) none) (cond (Nat.beq pc 11) (some (.iconst (-1), 12, 0, 0, 0, 0)) none)) (cond (Nat.beq pc 10) (some (.iaload, 11, 0, 0, 0, 0)) none))) (cond (Nat.ble 5 pc) (cond (Nat.ble 8 pc) (cond (Nat.ble 9 pc) (cond (Nat.beq pc 9) (some (.iaload, 10, 0, 0, 0, 0)) none) (cond (Nat.beq pc 8) (some (.iload_n 1, 9, 0, 0, 0, 0)) none)) (cond (Nat.beq pc 5) (some (.getfield 62, 8, 11, 31, 1006, 0)) none)) (cond (Nat.ble 1 pc) (cond (Nat.ble 4 pc) (cond (Nat.beq pc 4) (some (.aload_n 0, 5, 0, 0, 0, 0)) none) (cond (Nat.beq pc 1) (some (.getfield 41, 4, 11, 24, 999, 0)) none)) (cond (Nat.beq pc 0) (some (.aload_n 0, 1, 0, 0, 0, 0)) none))))
def rc_172 (pc : Nat) : Option RI := cond (Nat.ble 47 pc) none (cond (Nat.ble 20 pc) (cond (Nat.ble 33 pc) (cond (Nat.ble 39 pc) (cond (Nat.ble 45 pc) (cond (Nat.ble 46 pc) (cond (Nat.beq pc 46) (some (.ireturn, 47, 0, 0, 0, 0)) none) (cond (Nat.beq pc 45) (some (.iload_n 1, 46, 0, 0, 0, 0)) none)) (cond (Nat.ble 42 pc) (cond (Nat.beq pc 42) (some (.goto (-33), 45, 9, 0, 0, 0)) none) (cond (Nat.beq pc 39) (some (.iinc 2 1, 42, 0, 0, 0, 0)) none))) (cond (Nat.ble 37 pc) (cond (Nat.ble 38 pc) (cond (Nat.beq pc 38) (some (.istore_n 1, 39, 0, 0, 0, 0)) none) (cond (Nat.beq pc 37) (some (.iadd, 38, 0, 0, 0, 0)) none)) (cond (Nat.ble 36 pc) (cond (Nat.beq pc 36) (some (.iconst 0, 37, 0, 0, 0, 0)) none) (cond (Nat.beq pc 33) (some (.goto 4, 36, 37, 0, 0, 0)) none)))) (cond (Nat.ble 27 pc) (cond (Nat.ble 29 pc) (cond (Nat.ble 32 pc) (cond (Nat.beq pc 32) (some (.iconst 1, 33, 0, 0, 0, 0)) none) (cond (Nat.beq pc 29) (some (.if_icmp .le 7, 32, 36, 0, 0, 0)) none)) (cond (Nat.ble 28 pc) (cond (Nat.beq pc 28) (some (.iaload, 29, 0, 0, 0, 0)) none) (cond (Nat.beq pc 27) (some (.iload_n 2, 28, 0, 0, 0, 0)) none))) (cond (Nat.ble 23 pc) (cond (Nat.ble 24 pc) (cond (Nat.beq pc 24) (some (.getfield 35, 27, 11, 20, 995, 0)) none) (cond (Nat.beq pc 23) (some (.aload_n 0, 24, 0, 0, 0, 0)) none)) (cond (Nat.beq pc 20) (some (.invokevirtual 265, 23, 170, 0, 1289, 0)) none)))) (cond (Nat.ble 9 pc) (cond (Nat.ble 14 pc) (cond (Nat.ble 18 pc) (cond (Nat.ble 19 pc) (cond (Nat.beq pc 19) (some (.iload_n 2, 20, 0, 0, 0, 0)) none) (cond (Nat.beq pc 18) (some (.aload_n 0, 19, 0, 0, 0, 0)) none)) (cond (Nat.ble 17 pc) (cond (Nat.beq pc 17) (some (.iload_n 1, 18, 0, 0, 0, 0)) none) (cond (Nat.beq pc 14) (some (.if_icmp .ge 31, 17, 45, 0, 0, 0)) none))) (cond (Nat.ble 10 pc) (cond (Nat.ble 11 pc) (cond (Nat.beq pc 11) (some (.getfield 167, 14, 11, 15, 990, 0)) none) (cond (Nat.beq pc 10) (some (.aload_n 0, 11, 0, 0, 0, 0)) none)) (cond (Nat.beq pc 9) (some (.iload_n 2, 10, 0, 0, 0, 0)) none))) (cond (Nat.ble 5 pc) (cond (Nat.ble 7 pc) (cond (Nat.ble 8 pc) (cond (Nat.beq pc 8) (some (.istore_n 2, 9, 0, 0, 0, 0)) none) (cond (Nat.beq pc 7) (some (.iconst 0, 8, 0, 0, 0, 0)) none)) (cond (Nat.ble 6 pc) (cond (Nat.beq pc 6) (some (.istore_n 1, 7, 0, 0, 0, 0)) none) (cond (Nat.beq pc 5) (some (.iconst 0, 6, 0, 0, 0, 0)) none))) (cond (Nat.ble 1 pc) (cond (Nat.ble 2 pc) (cond (Nat.beq pc 2) (some (.putfield 95, 5, 11, 0, 975, 0)) none) (cond (Nat.beq pc 1) (some (.iconst 0, 2, 0, 0, 0, 0)) none)) (cond (Nat.beq pc 0) (some (.aload_n 0, 1, 0, 0, 0, 0)) none)))))
def rc_173 (pc : Nat) : Option RI := cond (Nat.ble 348 pc) none (cond (Nat.ble 157 pc) (cond (Nat.ble 256 pc) (cond (Nat.ble 301 pc) (cond (Nat.ble 324 pc) (cond (Nat.ble 336 pc) (cond (Nat.ble 341 pc) (cond (Nat.ble 344 pc) (cond (Nat.ble 347 pc) (cond (Nat.beq pc 347) (some (.ireturn, 348, 0, 0, 0, 0)) none) (cond (Nat.beq pc 344) (some (.invokevirtual 176, 347, 134, 0, 1139, 0)) none)) (cond (Nat.beq pc 341) (some (.getfield 271, 344, 11, 34, 1009, 0)) none)) (cond (Nat.ble 339 pc) (cond (Nat.ble 340 pc) (cond (Nat.beq pc 340) (some (.aload_n 0, 341, 0, 0, 0, 0)) none) (cond (Nat.beq pc 339) (some (.aload_n 0, 340, 0, 0, 0, 0)) none)) (cond (Nat.beq pc 336) (some (.goto (-48), 339, 288, 0, 0, 0)) none))) (cond (Nat.ble 329 pc) (cond (Nat.ble 330 pc) (cond (Nat.ble 333 pc) (cond (Nat.beq pc 333) (some (.iinc 6 1, 336, 0, 0, 0, 0)) none) (cond (Nat.beq pc 330) (some (.putfield 271, 333, 11, 34, 1009, 0)) none)) (cond (Nat.beq pc 329) (some (.iadd, 330, 0, 0, 0, 0)) none)) (cond (Nat.ble 325 pc) (cond (Nat.ble 328 pc) (cond (Nat.beq pc 328) (some (.iconst 1, 329, 0, 0, 0, 0)) none) (cond (Nat.beq pc 325) (some (.getfield 271, 328, 11, 34, 1009, 0)) none)) (cond (Nat.beq pc 324) (some (.dup, 325, 0, 0, 0, 0)) none)))) (cond (Nat.ble 315 pc) (cond (Nat.ble 321 pc) (cond (Nat.ble 322 pc) (cond (Nat.ble 323 pc) (cond (Nat.beq pc 323) (some (.aload_n 0, 324, 0, 0, 0, 0)) none) (cond (Nat.beq pc 322) (some (.iastore, 323, 0, 0, 0, 0)) none)) (cond (Nat.beq pc 321) (some (.iaload, 322, 0, 0, 0, 0)) none)) (cond (Nat.ble 316 pc) (cond (Nat.ble 319 pc) (cond (Nat.beq pc 319) (some (.iload 6, 321, 0, 0, 0, 0)) none) (cond (Nat.beq pc 316) (some (.getfield 65, 319, 11, 32, 1007, 0)) none)) (cond (Nat.beq pc 315) (some (.aload_n 0, 316, 0, 0, 0, 0)) none))) (cond (Nat.ble 308 pc) (cond (Nat.ble 311 pc) (cond (Nat.ble 312 pc) (cond (Nat.beq pc 312) (some (.getfield 271, 315, 11, 34, 1009, 0)) none) (cond (Nat.beq pc 311) (some (.aload_n 0, 312, 0, 0, 0, 0)) none)) (cond (Nat.beq pc 308) (some (.getfield 68, 311, 11, 33, 1008, 0)) none)) (cond (Nat.ble 304 pc) (cond (Nat.ble 307 pc) (cond (Nat.beq pc 307) (some (.aload_n 0, 308, 0, 0, 0, 0)) none) (cond (Nat.beq pc 304) (some (.goto 29, 307, 333, 0, 0, 0)) none)) (cond (Nat.beq pc 301) (some (.ifCond .ne 6, 304, 307, 0, 0, 0)) none))))) (cond (Nat.ble 281 pc) (cond (Nat.ble 291 pc) (cond (Nat.ble 298 pc) (cond (Nat.ble 299 pc) (cond (Nat.ble 300 pc) (cond (Nat.beq pc 300) (some (.iand, 301, 0, 0, 0, 0)) none) (cond (Nat.beq pc 299) (some (.iconst 1, 300, 0, 0, 0, 0)) none)) (cond (Nat.beq pc 298) (some (.ishr, 299, 0, 0, 0, 0)) none)) (cond (Nat.ble 294 pc) (cond (Nat.ble 296 pc) (cond (Nat.beq pc 296) (some (.iload 6, 298, 0, 0, 0, 0)) none) (cond (Nat.beq pc 294) (some (.iload 4, 296, 0, 0, 0, 0)) none)) (cond (Nat.beq pc 291) (some (.if_icmp .ge 48, 294, 339, 0, 0, 0)) none))) (cond (Nat.ble 286 pc) (cond (Nat.ble 288 pc) (cond (Nat.ble 290 pc) (cond (Nat.beq pc 290) (some (.iload_n 2, 291, 0, 0, 0, 0)) none) (cond (Nat.beq pc 288) (some (.iload 6, 290, 0, 0, 0, 0)) none)) (cond (Nat.beq pc 286) (some (.istore 6, 288, 0, 0, 0, 0)) none)) (cond (Nat.ble 282 pc) (cond (Nat.ble 285 pc) (cond (Nat.beq pc 285) (some (.iconst 0, 286, 0, 0, 0, 0)) none) (cond (Nat.beq pc 282) (some (.putfield 271, 285, 11, 34, 1009, 0)) none)) (cond (Nat.beq pc 281) (some (.iconst 0, 282, 0, 0, 0, 0)) none)))) (cond (Nat.ble 268 pc) (cond (Nat.ble 274 pc) (cond (Nat.ble 277 pc) (cond (Nat.ble 280 pc) (cond (Nat.beq pc 280) (some (.aload_n 0, 281, 0, 0, 0, 0)) none) (cond (Nat.beq pc 277) (some (.goto (-175), 280, 102, 0, 0, 0)) none)) (cond (Nat.beq pc 274) (some (.iinc 6 1, 277, 0, 0, 0, 0)) none)) (cond (Nat.ble 270 pc) (cond (Nat.ble 272 pc) (cond (Nat.beq pc 272) (some (.istore 5, 274, 0, 0, 0, 0)) none) (cond (Nat.beq pc 270) (some (.iload 7, 272, 0, 0, 0, 0)) none)) (cond (Nat.beq pc 268) (some (.istore 4, 270, 0, 0, 0, 0)) none))) (cond (Nat.ble 260 pc) (cond (Nat.ble 263 pc) (cond (Nat.ble 266 pc) (cond (Nat.beq pc 266) (some (.iload 6, 268, 0, 0, 0, 0)) none) (cond (Nat.beq pc 263) (some (.goto 11, 266, 274, 0, 0, 0)) none)) (cond (Nat.beq pc 260) (some (.ifCond .ne 6, 263, 266, 0, 0, 0)) none)) (cond (Nat.ble 258 pc) (cond (Nat.beq pc 258) (some (.iload 10, 260, 0, 0, 0, 0)) none) (cond (Nat.beq pc 256) (some (.istore 10, 258, 0, 0, 0, 0)) none)))))) (cond (Nat.ble 201 pc) (cond (Nat.ble 229 pc) (cond (Nat.ble 243 pc) (cond (Nat.ble 251 pc) (cond (Nat.ble 252 pc) (cond (Nat.ble 255 pc) (cond (Nat.beq pc 255) (some (.iconst 0, 256, 0, 0, 0, 0)) none) (cond (Nat.beq pc 252) (some (.goto 4, 255, 256, 0, 0, 0)) none)) (cond (Nat.beq pc 251) (some (.iconst 1, 252, 0, 0, 0, 0)) none)) (cond (Nat.ble 246 pc) (cond (Nat.ble 248 pc) (cond (Nat.beq pc 248) (some (.ifCond .eq 7, 251, 255, 0, 0, 0)) none) (cond (Nat.beq pc 246) (some (.iload 9, 248, 0, 0, 0, 0)) none)) (cond (Nat.beq pc 243) (some (.if_icmp .ne 12, 246, 255, 0, 0, 0)) none))) (cond (Nat.ble 236 pc) (cond (Nat.ble 239 pc) (cond (Nat.ble 241 pc) (cond (Nat.beq pc 241) (some (.iload 5, 243, 0, 0, 0, 0)) none) (cond (Nat.beq pc 239) (some (.iload 7, 241, 0, 0, 0, 0)) none)) (cond (Nat.beq pc 236) (some (.if_icmp .lt 15, 239, 251, 0, 0, 0)) none)) (cond (Nat.ble 232 pc) (cond (Nat.ble 234 pc) (cond (Nat.beq pc 234) (some (.iload 5, 236, 0, 0, 0, 0)) none) (cond (Nat.beq pc 232) (some (.iload 7, 234, 0, 0, 0, 0)) none)) (cond (Nat.beq pc 229) (some (.if_icmp .ne 26, 232, 255, 0, 0, 0)) none)))) (cond (Nat.ble 213 pc) (cond (Nat.ble 221 pc) (cond (Nat.ble 224 pc) (cond (Nat.ble 226 pc) (cond (Nat.beq pc 226) (some (.invokestatic 268, 229, 174, 0, 1305, 0)) none) (cond (Nat.beq pc 224) (some (.iload 4, 226, 0, 0, 0, 0)) none)) (cond (Nat.beq pc 221) (some (.invokestatic 268, 224, 174, 0, 1305, 0)) none)) (cond (Nat.ble 216 pc) (cond (Nat.ble 219 pc) (cond (Nat.beq pc 219) (some (.iload 6, 221, 0, 0, 0, 0)) none) (cond (Nat.beq pc 216) (some (.if_icmp .lt 35, 219, 251, 0, 0, 0)) none)) (cond (Nat.beq pc 213) (some (.invokestatic 268, 216, 174, 0, 1305, 0)) none))) (cond (Nat.ble 206 pc) (cond (Nat.ble 208 pc) (cond (Nat.ble 211 pc) (cond (Nat.beq pc 211) (some (.iload 4, 213, 0, 0, 0, 0)) none) (cond (Nat.beq pc 208) (some (.invokestatic 268, 211, 174, 0, 1305, 0)) none)) (cond (Nat.beq pc 206) (some (.iload 6, 208, 0, 0, 0, 0)) none)) (cond (Nat.ble 203 pc) (cond (Nat.beq pc 203) (some (.ifCond .eq 48, 206, 251, 0, 0, 0)) none) (cond (Nat.beq pc 201) (some (.iload 4, 203, 0, 0, 0, 0)) none))))) (cond (Nat.ble 180 pc) (cond (Nat.ble 190 pc) (cond (Nat.ble 195 pc) (cond (Nat.ble 198 pc) (cond (Nat.ble 199 pc) (cond (Nat.beq pc 199) (some (.istore 9, 201, 0, 0, 0, 0)) none) (cond (Nat.beq pc 198) (some (.iconst 0, 199, 0, 0, 0, 0)) none)) (cond (Nat.beq pc 195) (some (.goto 4, 198, 199, 0, 0, 0)) none)) (cond (Nat.ble 191 pc) (cond (Nat.ble 194 pc) (cond (Nat.beq pc 194) (some (.iconst 1, 195, 0, 0, 0, 0)) none) (cond (Nat.beq pc 191) (some (.ifCond .eq 7, 194, 198, 0, 0, 0)) none)) (cond (Nat.beq pc 190) (some (.iand, 191, 0, 0, 0, 0)) none))) (cond (Nat.ble 186 pc) (cond (Nat.ble 187 pc) (cond (Nat.ble 188 pc) (cond (Nat.beq pc 188) (some (.iload 6, 190, 0, 0, 0, 0)) none) (cond (Nat.beq pc 187) (some (.iand, 188, 0, 0, 0, 0)) none)) (cond (Nat.beq pc 186) (some (.ineg, 187, 0, 0, 0, 0)) none)) (cond (Nat.ble 182 pc) (cond (Nat.ble 184 pc) (cond (Nat.beq pc 184) (some (.iload 8, 186, 0, 0, 0, 0)) none) (cond (Nat.beq pc 182) (some (.iload 8, 184, 0, 0, 0, 0)) none)) (cond (Nat.beq pc 180) (some (.istore 8, 182, 0, 0, 0, 0)) none)))) (cond (Nat.ble 168 pc) (cond (Nat.ble 175 pc) (cond (Nat.ble 177 pc) (cond (Nat.ble 179 pc) (cond (Nat.beq pc 179) (some (.ixor, 180, 0, 0, 0, 0)) none) (cond (Nat.beq pc 177) (some (.iload 4, 179, 0, 0, 0, 0)) none)) (cond (Nat.beq pc 175) (some (.iload 6, 177, 0, 0, 0, 0)) none)) (cond (Nat.ble 169 pc) (cond (Nat.ble 172 pc) (cond (Nat.beq pc 172) (some (.goto 102, 175, 274, 0, 0, 0)) none) (cond (Nat.beq pc 169) (some (.if_icmp .ge 6, 172, 175, 0, 0, 0)) none)) (cond (Nat.beq pc 168) (some (.iload_n 3, 169, 0, 0, 0, 0)) none))) (cond (Nat.ble 160 pc) (cond (Nat.ble 163 pc) (cond (Nat.ble 166 pc) (cond (Nat.beq pc 166) (some (.iload 7, 168, 0, 0, 0, 0)) none) (cond (Nat.beq pc 163) (some (.goto (-43), 166, 120, 0, 0, 0)) none)) (cond (Nat.beq pc 160) (some (.iinc 8 1, 163, 0, 0, 0, 0)) none)) (cond (Nat.ble 158 pc) (cond (Nat.beq pc 158) (some (.istore 7, 160, 0, 0, 0, 0)) none) (cond (Nat.beq pc 157) (some (.iadd, 158, 0, 0, 0, 0)) none))))))) (cond (Nat.ble 81 pc) (cond (Nat.ble 117 pc) (cond (Nat.ble 136 pc) (cond (Nat.ble 148 pc) (cond (Nat.ble 152 pc) (cond (Nat.ble 153 pc) (cond (Nat.ble 156 pc) (cond (Nat.beq pc 156) (some (.iconst 0, 157, 0, 0, 0, 0)) none) (cond (Nat.beq pc 153) (some (.goto 4, 156, 157, 0, 0, 0)) none)) (cond (Nat.beq pc 152) (some (.iaload, 153, 0, 0, 0, 0)) none)) (cond (Nat.ble 150 pc) (cond (Nat.ble 151 pc) (cond (Nat.beq pc 151) (some (.imul, 152, 0, 0, 0, 0)) none) (cond (Nat.beq pc 150) (some (.iaload, 151, 0, 0, 0, 0)) none)) (cond (Nat.beq pc 148) (some (.iload 8, 150, 0, 0, 0, 0)) none))) (cond (Nat.ble 143 pc) (cond (Nat.ble 144 pc) (cond (Nat.ble 145 pc) (cond (Nat.beq pc 145) (some (.getfield 65, 148, 11, 32, 1007, 0)) none) (cond (Nat.beq pc 144) (some (.aload_n 0, 145, 0, 0, 0, 0)) none)) (cond (Nat.beq pc 143) (some (.iconst 5, 144, 0, 0, 0, 0)) none)) (cond (Nat.ble 139 pc) (cond (Nat.ble 140 pc) (cond (Nat.beq pc 140) (some (.getfield 53, 143, 11, 28, 1003, 0)) none) (cond (Nat.beq pc 139) (some (.aload_n 0, 140, 0, 0, 0, 0)) none)) (cond (Nat.beq pc 136) (some (.if_icmp .ne 20, 139, 156, 0, 0, 0)) none)))) (cond (Nat.ble 128 pc) (cond (Nat.ble 133 pc) (cond (Nat.ble 134 pc) (cond (Nat.ble 135 pc) (cond (Nat.beq pc 135) (some (.iconst 1, 136, 0, 0, 0, 0)) none) (cond (Nat.beq pc 134) (some (.iand, 135, 0, 0, 0, 0)) none)) (cond (Nat.beq pc 133) (some (.iconst 1, 134, 0, 0, 0, 0)) none)) (cond (Nat.ble 130 pc) (cond (Nat.ble 132 pc) (cond (Nat.beq pc 132) (some (.ishr, 133, 0, 0, 0, 0)) none) (cond (Nat.beq pc 130) (some (.iload 8, 132, 0, 0, 0, 0)) none)) (cond (Nat.beq pc 128) (some (.iload 6, 130, 0, 0, 0, 0)) none))) (cond (Nat.ble 122 pc) (cond (Nat.ble 123 pc) (cond (Nat.ble 126 pc) (cond (Nat.beq pc 126) (some (.iload 7, 128, 0, 0, 0, 0)) none) (cond (Nat.beq pc 123) (some (.if_icmp .ge 43, 126, 166, 0, 0, 0)) none)) (cond (Nat.beq pc 122) (some (.iload_n 2, 123, 0, 0, 0, 0)) none)) (cond (Nat.ble 118 pc) (cond (Nat.ble 120 pc) (cond (Nat.beq pc 120) (some (.iload 8, 122, 0, 0, 0, 0)) none) (cond (Nat.beq pc 118) (some (.istore 8, 120, 0, 0, 0, 0)) none)) (cond (Nat.beq pc 117) (some (.iconst 0, 118, 0, 0, 0, 0)) none))))) (cond (Nat.ble 97 pc) (cond (Nat.ble 106 pc) (cond (Nat.ble 111 pc) (cond (Nat.ble 114 pc) (cond (Nat.ble 115 pc) (cond (Nat.beq pc 115) (some (.istore 7, 117, 0, 0, 0, 0)) none) (cond (Nat.beq pc 114) (some (.iconst 0, 115, 0, 0, 0, 0)) none)) (cond (Nat.beq pc 111) (some (.ifCond .le 169, 114, 280, 0, 0, 0)) none)) (cond (Nat.ble 107 pc) (cond (Nat.ble 110 pc) (cond (Nat.beq pc 110) (some (.iload_n 3, 111, 0, 0, 0, 0)) none) (cond (Nat.beq pc 107) (some (.if_icmp .ge 173, 110, 280, 0, 0, 0)) none)) (cond (Nat.beq pc 106) (some (.ishl, 107, 0, 0, 0, 0)) none))) (cond (Nat.ble 102 pc) (cond (Nat.ble 104 pc) (cond (Nat.ble 105 pc) (cond (Nat.beq pc 105) (some (.iload_n 2, 106, 0, 0, 0, 0)) none) (cond (Nat.beq pc 104) (some (.iconst 1, 105, 0, 0, 0, 0)) none)) (cond (Nat.beq pc 102) (some (.iload 6, 104, 0, 0, 0, 0)) none)) (cond (Nat.ble 99 pc) (cond (Nat.ble 100 pc) (cond (Nat.beq pc 100) (some (.istore 6, 102, 0, 0, 0, 0)) none) (cond (Nat.beq pc 99) (some (.iconst 1, 100, 0, 0, 0, 0)) none)) (cond (Nat.beq pc 97) (some (.istore 5, 99, 0, 0, 0, 0)) none)))) (cond (Nat.ble 90 pc) (cond (Nat.ble 93 pc) (cond (Nat.ble 94 pc) (cond (Nat.ble 96 pc) (cond (Nat.beq pc 96) (some (.iconst 0, 97, 0, 0, 0, 0)) none) (cond (Nat.beq pc 94) (some (.istore 4, 96, 0, 0, 0, 0)) none)) (cond (Nat.beq pc 93) (some (.iconst 0, 94, 0, 0, 0, 0)) none)) (cond (Nat.ble 91 pc) (cond (Nat.ble 92 pc) (cond (Nat.beq pc 92) (some (.istore_n 3, 93, 0, 0, 0, 0)) none) (cond (Nat.beq pc 91) (some (.isub, 92, 0, 0, 0, 0)) none)) (cond (Nat.beq pc 90) (some (.iaload, 91, 0, 0, 0, 0)) none))) (cond (Nat.ble 85 pc) (cond (Nat.ble 86 pc) (cond (Nat.ble 89 pc) (cond (Nat.beq pc 89) (some (.iload_n 1, 90, 0, 0, 0, 0)) none) (cond (Nat.beq pc 86) (some (.getfield 35, 89, 11, 20, 995, 0)) none)) (cond (Nat.beq pc 85) (some (.aload_n 0, 86, 0, 0, 0, 0)) none)) (cond (Nat.ble 82 pc) (cond (Nat.beq pc 82) (some (.invokevirtual 265, 85, 170, 0, 1289, 0)) none) (cond (Nat.beq pc 81) (some (.iload_n 1, 82, 0, 0, 0, 0)) none)))))) (cond (Nat.ble 39 pc) (cond (Nat.ble 59 pc) (cond (Nat.ble 69 pc) (cond (Nat.ble 74 pc) (cond (Nat.ble 77 pc) (cond (Nat.ble 80 pc) (cond (Nat.beq pc 80) (some (.aload_n 0, 81, 0, 0, 0, 0)) none) (cond (Nat.beq pc 77) (some (.goto (-54), 80, 23, 0, 0, 0)) none)) (cond (Nat.beq pc 74) (some (.iinc 3 1, 77, 0, 0, 0, 0)) none)) (cond (Nat.ble 70 pc) (cond (Nat.ble 71 pc) (cond (Nat.beq pc 71) (some (.iinc 2 1, 74, 0, 0, 0, 0)) none) (cond (Nat.beq pc 70) (some (.iastore, 71, 0, 0, 0, 0)) none)) (cond (Nat.beq pc 69) (some (.iload_n 3, 70, 0, 0, 0, 0)) none))) (cond (Nat.ble 64 pc) (cond (Nat.ble 65 pc) (cond (Nat.ble 68 pc) (cond (Nat.beq pc 68) (some (.iload_n 2, 69, 0, 0, 0, 0)) none) (cond (Nat.beq pc 65) (some (.getfield 65, 68, 11, 32, 1007, 0)) none)) (cond (Nat.beq pc 64) (some (.aload_n 0, 65, 0, 0, 0, 0)) none)) (cond (Nat.ble 60 pc) (cond (Nat.ble 63 pc) (cond (Nat.beq pc 63) (some (.ireturn, 64, 0, 0, 0, 0)) none) (cond (Nat.beq pc 60) (some (.invokevirtual 173, 63, 133, 0, 1135, 0)) none)) (cond (Nat.beq pc 59) (some (.iconst 3, 60, 0, 0, 0, 0)) none)))) (cond (Nat.ble 46 pc) (cond (Nat.ble 53 pc) (cond (Nat.ble 55 pc) (cond (Nat.ble 58 pc) (cond (Nat.beq pc 58) (some (.aload_n 0, 59, 0, 0, 0, 0)) none) (cond (Nat.beq pc 55) (some (.if_icmp .ne 9, 58, 64, 0, 0, 0)) none)) (cond (Nat.beq pc 53) (some (.bipush 12, 55, 0, 0, 0, 0)) none)) (cond (Nat.ble 49 pc) (cond (Nat.ble 52 pc) (cond (Nat.beq pc 52) (some (.iload_n 2, 53, 0, 0, 0, 0)) none) (cond (Nat.beq pc 49) (some (.goto 25, 52, 74, 0, 0, 0)) none)) (cond (Nat.beq pc 46) (some (.if_icmp .eq 6, 49, 52, 0, 0, 0)) none))) (cond (Nat.ble 43 pc) (cond (Nat.ble 44 pc) (cond (Nat.ble 45 pc) (cond (Nat.beq pc 45) (some (.iload_n 1, 46, 0, 0, 0, 0)) none) (cond (Nat.beq pc 44) (some (.iaload, 45, 0, 0, 0, 0)) none)) (cond (Nat.beq pc 43) (some (.iload_n 3, 44, 0, 0, 0, 0)) none)) (cond (Nat.ble 40 pc) (cond (Nat.beq pc 40) (some (.getfield 56, 43, 11, 29, 1004, 0)) none) (cond (Nat.beq pc 39) (some (.aload_n 0, 40, 0, 0, 0, 0)) none))))) (cond (Nat.ble 19 pc) (cond (Nat.ble 25 pc) (cond (Nat.ble 32 pc) (cond (Nat.ble 33 pc) (cond (Nat.ble 36 pc) (cond (Nat.beq pc 36) (some (.ifCond .eq 38, 39, 74, 0, 0, 0)) none) (cond (Nat.beq pc 33) (some (.invokevirtual 259, 36, 171, 0, 1293, 0)) none)) (cond (Nat.beq pc 32) (some (.iload_n 3, 33, 0, 0, 0, 0)) none)) (cond (Nat.ble 28 pc) (cond (Nat.ble 31 pc) (cond (Nat.beq pc 31) (some (.aload_n 0, 32, 0, 0, 0, 0)) none) (cond (Nat.beq pc 28) (some (.if_icmp .ge 52, 31, 80, 0, 0, 0)) none)) (cond (Nat.beq pc 25) (some (.getfield 224, 28, 11, 23, 998, 0)) none))) (cond (Nat.ble 22 pc) (cond (Nat.ble 23 pc) (cond (Nat.ble 24 pc) (cond (Nat.beq pc 24) (some (.aload_n 0, 25, 0, 0, 0, 0)) none) (cond (Nat.beq pc 23) (some (.iload_n 3, 24, 0, 0, 0, 0)) none)) (cond (Nat.beq pc 22) (some (.istore_n 3, 23, 0, 0, 0, 0)) none)) (cond (Nat.ble 20 pc) (cond (Nat.ble 21 pc) (cond (Nat.beq pc 21) (some (.iconst 0, 22, 0, 0, 0, 0)) none) (cond (Nat.beq pc 20) (some (.istore_n 2, 21, 0, 0, 0, 0)) none)) (cond (Nat.beq pc 19) (some (.iconst 0, 20, 0, 0, 0, 0)) none)))) (cond (Nat.ble 7 pc) (cond (Nat.ble 14 pc) (cond (Nat.ble 15 pc) (cond (Nat.ble 18 pc) (cond (Nat.beq pc 18) (some (.ireturn, 19, 0, 0, 0, 0)) none) (cond (Nat.beq pc 15) (some (.invokevirtual 173, 18, 133, 0, 1135, 0)) none)) (cond (Nat.beq pc 14) (some (.iconst 1, 15, 0, 0, 0, 0)) none)) (cond (Nat.ble 10 pc) (cond (Nat.ble 13 pc) (cond (Nat.beq pc 13) (some (.aload_n 0, 14, 0, 0, 0, 0)) none) (cond (Nat.beq pc 10) (some (.ifCond .ne 9, 13, 19, 0, 0, 0)) none)) (cond (Nat.beq pc 7) (some (.invokevirtual 262, 10, 169, 0, 1285, 0)) none))) (cond (Nat.ble 2 pc) (cond (Nat.ble 5 pc) (cond (Nat.ble 6 pc) (cond (Nat.beq pc 6) (some (.iload_n 1, 7, 0, 0, 0, 0)) none) (cond (Nat.beq pc 5) (some (.aload_n 0, 6, 0, 0, 0, 0)) none)) (cond (Nat.beq pc 2) (some (.putfield 95, 5, 11, 0, 975, 0)) none)) (cond (Nat.ble 1 pc) (cond (Nat.beq pc 1) (some (.iconst 0, 2, 0, 0, 0, 0)) none) (cond (Nat.beq pc 0) (some (.aload_n 0, 1, 0, 0, 0, 0)) none))))))))
def rc_174 (pc : Nat) : Option RI := cond (Nat.ble 22 pc) none (cond (Nat.ble 12 pc) (cond (Nat.ble 16 pc) (cond (Nat.ble 20 pc) (cond (Nat.ble 21 pc) (cond (Nat.beq pc 21) (some (.ireturn, 22, 0, 0, 0, 0)) none) (cond (Nat.beq pc 20) (some (.iload_n 1, 21, 0, 0, 0, 0)) none)) (cond (Nat.ble 17 pc) (cond (Nat.beq pc 17) (some (.goto (-13), 20, 4, 0, 0, 0)) none) (cond (Nat.beq pc 16) (some (.istore_n 2, 17, 0, 0, 0, 0)) none))) (cond (Nat.ble 14 pc) (cond (Nat.ble 15 pc) (cond (Nat.beq pc 15) (some (.iand, 16, 0, 0, 0, 0)) none) (cond (Nat.beq pc 14) (some (.isub, 15, 0, 0, 0, 0)) none)) (cond (Nat.ble 13 pc) (cond (Nat.beq pc 13) (some (.iconst 1, 14, 0, 0, 0, 0)) none) (cond (Nat.beq pc 12) (some (.iload_n 2, 13, 0, 0, 0, 0)) none)))) (cond (Nat.ble 4 pc) (cond (Nat.ble 8 pc) (cond (Nat.ble 11 pc) (cond (Nat.beq pc 11) (some (.iload_n 2, 12, 0, 0, 0, 0)) none) (cond (Nat.beq pc 8) (some (.iinc 1 1, 11, 0, 0, 0, 0)) none)) (cond (Nat.ble 5 pc) (cond (Nat.beq pc 5) (some (.ifCond .eq 15, 8, 20, 0, 0, 0)) none) (cond (Nat.beq pc 4) (some (.iload_n 2, 5, 0, 0, 0, 0)) none))) (cond (Nat.ble 2 pc) (cond (Nat.ble 3 pc) (cond (Nat.beq pc 3) (some (.istore_n 2, 4, 0, 0, 0, 0)) none) (cond (Nat.beq pc 2) (some (.iload_n 0, 3, 0, 0, 0, 0)) none)) (cond (Nat.ble 1 pc) (cond (Nat.beq pc 1) (some (.istore_n 1, 2, 0, 0, 0, 0)) none) (cond (Nat.beq pc 0) (some (.iconst 0, 1, 0, 0, 0, 0)) none)))))
def rc_175 (pc : Nat) : Option RI := cond (Nat.ble 28 pc) none (cond (Nat.ble 14 pc) (cond (Nat.ble 22 pc) (cond (Nat.ble 26 pc) (cond (Nat.ble 27 pc) (cond (Nat.beq pc 27) (some (.ireturn, 28, 0, 0, 0, 0)) none) (cond (Nat.beq pc 26) (some (.iconst (-1), 27, 0, 0, 0, 0)) none)) (cond (Nat.ble 23 pc) (cond (Nat.beq pc 23) (some (.goto 4, 26, 27, 0, 0, 0)) none) (cond (Nat.beq pc 22) (some (.iaload, 23, 0, 0, 0, 0)) none))) (cond (Nat.ble 18 pc) (cond (Nat.ble 21 pc) (cond (Nat.beq pc 21) (some (.iload_n 1, 22, 0, 0, 0, 0)) none) (cond (Nat.beq pc 18) (some (.getfield 68, 21, 11, 33, 1008, 0)) none)) (cond (Nat.ble 17 pc) (cond (Nat.beq pc 17) (some (.aload_n 0, 18, 0, 0, 0, 0)) none) (cond (Nat.beq pc 14) (some (.if_icmp .ge 12, 17, 26, 0, 0, 0)) none)))) (cond (Nat.ble 6 pc) (cond (Nat.ble 10 pc) (cond (Nat.ble 11 pc) (cond (Nat.beq pc 11) (some (.getfield 271, 14, 11, 34, 1009, 0)) none) (cond (Nat.beq pc 10) (some (.aload_n 0, 11, 0, 0, 0, 0)) none)) (cond (Nat.ble 9 pc) (cond (Nat.beq pc 9) (some (.iload_n 1, 10, 0, 0, 0, 0)) none) (cond (Nat.beq pc 6) (some (.ifCond .lt 20, 9, 26, 0, 0, 0)) none))) (cond (Nat.ble 2 pc) (cond (Nat.ble 5 pc) (cond (Nat.beq pc 5) (some (.iload_n 1, 6, 0, 0, 0, 0)) none) (cond (Nat.beq pc 2) (some (.putfield 95, 5, 11, 0, 975, 0)) none)) (cond (Nat.ble 1 pc) (cond (Nat.beq pc 1) (some (.iconst 0, 2, 0, 0, 0, 0)) none) (cond (Nat.beq pc 0) (some (.aload_n 0, 1, 0, 0, 0, 0)) none)))))
def rc_176 (pc : Nat) : Option RI := cond (Nat.ble 24 pc) none (cond (Nat.ble 9 pc) (cond (Nat.ble 16 pc) (cond (Nat.ble 22 pc) (cond (Nat.ble 23 pc) (cond (Nat.beq pc 23) (some (.ireturn, 24, 0, 0, 0, 0)) none) (cond (Nat.beq pc 22) (some (.iload_n 1, 23, 0, 0, 0, 0)) none)) (cond (Nat.ble 19 pc) (cond (Nat.beq pc 19) (some (.goto (-12), 22, 7, 0, 0, 0)) none) (cond (Nat.beq pc 16) (some (.iinc 1 1, 19, 0, 0, 0, 0)) none))) (cond (Nat.ble 12 pc) (cond (Nat.ble 13 pc) (cond (Nat.beq pc 13) (some (.if_icmp .eq 9, 16, 22, 0, 0, 0)) none) (cond (Nat.beq pc 12) (some (.iconst (-1), 13, 0, 0, 0, 0)) none)) (cond (Nat.beq pc 9) (some (.invokevirtual 274, 12, 177, 0, 1316, 0)) none))) (cond (Nat.ble 5 pc) (cond (Nat.ble 7 pc) (cond (Nat.ble 8 pc) (cond (Nat.beq pc 8) (some (.iload_n 1, 9, 0, 0, 0, 0)) none) (cond (Nat.beq pc 7) (some (.aload_n 0, 8, 0, 0, 0, 0)) none)) (cond (Nat.ble 6 pc) (cond (Nat.beq pc 6) (some (.istore_n 1, 7, 0, 0, 0, 0)) none) (cond (Nat.beq pc 5) (some (.iconst 0, 6, 0, 0, 0, 0)) none))) (cond (Nat.ble 1 pc) (cond (Nat.ble 2 pc) (cond (Nat.beq pc 2) (some (.putfield 95, 5, 11, 0, 975, 0)) none) (cond (Nat.beq pc 1) (some (.iconst 0, 2, 0, 0, 0, 0)) none)) (cond (Nat.beq pc 0) (some (.aload_n 0, 1, 0, 0, 0, 0)) none))))
def rc_177 (pc : Nat) : Option RI := cond (Nat.ble 91 pc) none (cond (Nat.ble 42 pc) (cond (Nat.ble 67 pc) (cond (Nat.ble 79 pc) (cond (Nat.ble 86 pc) (cond (Nat.ble 89 pc) (cond (Nat.ble 90 pc) (cond (Nat.beq pc 90) (some (.ireturn, 91, 0, 0, 0, 0)) none) (cond (Nat.beq pc 89) (some (.iconst (-1), 90, 0, 0, 0, 0)) none)) (cond (Nat.beq pc 86) (some (.goto (-82), 89, 4, 0, 0, 0)) none)) (cond (Nat.ble 80 pc) (cond (Nat.ble 83 pc) (cond (Nat.beq pc 83) (some (.iinc 3 1, 86, 0, 0, 0, 0)) none) (cond (Nat.beq pc 80) (some (.iinc 2 1, 83, 0, 0, 0, 0)) none)) (cond (Nat.beq pc 79) (some (.ireturn, 80, 0, 0, 0, 0)) none))) (cond (Nat.ble 74 pc) (cond (Nat.ble 75 pc) (cond (Nat.ble 78 pc) (cond (Nat.beq pc 78) (some (.iload_n 3, 79, 0, 0, 0, 0)) none) (cond (Nat.beq pc 75) (some (.if_icmp .ne 5, 78, 80, 0, 0, 0)) none)) (cond (Nat.beq pc 74) (some (.iload_n 1, 75, 0, 0, 0, 0)) none)) (cond (Nat.ble 70 pc) (cond (Nat.ble 73 pc) (cond (Nat.beq pc 73) (some (.iload_n 2, 74, 0, 0, 0, 0)) none) (cond (Nat.beq pc 70) (some (.goto 13, 73, 83, 0, 0, 0)) none)) (cond (Nat.beq pc 67) (some (.ifCond .eq 6, 70, 73, 0, 0, 0)) none)))) (cond (Nat.ble 53 pc) (cond (Nat.ble 59 pc) (cond (Nat.ble 62 pc) (cond (Nat.ble 65 pc) (cond (Nat.beq pc 65) (some (.iload 4, 67, 0, 0, 0, 0)) none) (cond (Nat.beq pc 62) (some (.goto (-44), 65, 18, 0, 0, 0)) none)) (cond (Nat.beq pc 59) (some (.iinc 5 1, 62, 0, 0, 0, 0)) none)) (cond (Nat.ble 56 pc) (cond (Nat.ble 57 pc) (cond (Nat.beq pc 57) (some (.istore 4, 59, 0, 0, 0, 0)) none) (cond (Nat.beq pc 56) (some (.iconst 0, 57, 0, 0, 0, 0)) none)) (cond (Nat.beq pc 53) (some (.goto 4, 56, 57, 0, 0, 0)) none))) (cond (Nat.ble 48 pc) (cond (Nat.ble 49 pc) (cond (Nat.ble 52 pc) (cond (Nat.beq pc 52) (some (.iconst 1, 53, 0, 0, 0, 0)) none) (cond (Nat.beq pc 49) (some (.if_icmp .ne 7, 52, 56, 0, 0, 0)) none)) (cond (Nat.beq pc 48) (some (.iload_n 3, 49, 0, 0, 0, 0)) none)) (cond (Nat.ble 45 pc) (cond (Nat.ble 47 pc) (cond (Nat.beq pc 47) (some (.iaload, 48, 0, 0, 0, 0)) none) (cond (Nat.beq pc 45) (some (.iload 5, 47, 0, 0, 0, 0)) none)) (cond (Nat.beq pc 42) (some (.getfield 56, 45, 11, 29, 1004, 0)) none))))) (cond (Nat.ble 16 pc) (cond (Nat.ble 29 pc) (cond (Nat.ble 35 pc) (cond (Nat.ble 38 pc) (cond (Nat.ble 41 pc) (cond (Nat.beq pc 41) (some (.aload_n 0, 42, 0, 0, 0, 0)) none) (cond (Nat.beq pc 38) (some (.ifCond .eq 18, 41, 56, 0, 0, 0)) none)) (cond (Nat.beq pc 35) (some (.invokevirtual 259, 38, 171, 0, 1293, 0)) none)) (cond (Nat.ble 32 pc) (cond (Nat.ble 33 pc) (cond (Nat.beq pc 33) (some (.iload 5, 35, 0, 0, 0, 0)) none) (cond (Nat.beq pc 32) (some (.aload_n 0, 33, 0, 0, 0, 0)) none)) (cond (Nat.beq pc 29) (some (.ifCond .ne 23, 32, 52, 0, 0, 0)) none))) (cond (Nat.ble 21 pc) (cond (Nat.ble 24 pc) (cond (Nat.ble 27 pc) (cond (Nat.beq pc 27) (some (.iload 4, 29, 0, 0, 0, 0)) none) (cond (Nat.beq pc 24) (some (.if_icmp .ge 41, 27, 65, 0, 0, 0)) none)) (cond (Nat.beq pc 21) (some (.getfield 224, 24, 11, 23, 998, 0)) none)) (cond (Nat.ble 18 pc) (cond (Nat.ble 20 pc) (cond (Nat.beq pc 20) (some (.aload_n 0, 21, 0, 0, 0, 0)) none) (cond (Nat.beq pc 18) (some (.iload 5, 20, 0, 0, 0, 0)) none)) (cond (Nat.beq pc 16) (some (.istore 5, 18, 0, 0, 0, 0)) none)))) (cond (Nat.ble 5 pc) (cond (Nat.ble 12 pc) (cond (Nat.ble 13 pc) (cond (Nat.ble 15 pc) (cond (Nat.beq pc 15) (some (.iconst 0, 16, 0, 0, 0, 0)) none) (cond (Nat.beq pc 13) (some (.istore 4, 15, 0, 0, 0, 0)) none)) (cond (Nat.beq pc 12) (some (.iconst 0, 13, 0, 0, 0, 0)) none)) (cond (Nat.ble 6 pc) (cond (Nat.ble 9 pc) (cond (Nat.beq pc 9) (some (.if_icmp .ge 80, 12, 89, 0, 0, 0)) none) (cond (Nat.beq pc 6) (some (.getfield 167, 9, 11, 15, 990, 0)) none)) (cond (Nat.beq pc 5) (some (.aload_n 0, 6, 0, 0, 0, 0)) none))) (cond (Nat.ble 2 pc) (cond (Nat.ble 3 pc) (cond (Nat.ble 4 pc) (cond (Nat.beq pc 4) (some (.iload_n 3, 5, 0, 0, 0, 0)) none) (cond (Nat.beq pc 3) (some (.istore_n 3, 4, 0, 0, 0, 0)) none)) (cond (Nat.beq pc 2) (some (.iconst 0, 3, 0, 0, 0, 0)) none)) (cond (Nat.ble 1 pc) (cond (Nat.beq pc 1) (some (.istore_n 2, 2, 0, 0, 0, 0)) none) (cond (Nat.beq pc 0) (some (.iconst 0, 1, 0, 0, 0, 0)) none))))))
def rc_178 (pc : Nat) : Option RI := cond (Nat.ble 19 pc) none (cond (Nat.ble 9 pc) (cond (Nat.ble 14 pc) (cond (Nat.ble 15 pc) (cond (Nat.ble 18 pc) (cond (Nat.beq pc 18) (some (.ireturn, 19, 0, 0, 0, 0)) none) (cond (Nat.beq pc 15) (some (.invokevirtual 274, 18, 177, 0, 1316, 0)) none)) (cond (Nat.beq pc 14) (some (.iload_n 1, 15, 0, 0, 0, 0)) none)) (cond (Nat.ble 10 pc) (cond (Nat.ble 13 pc) (cond (Nat.beq pc 13) (some (.aload_n 0, 14, 0, 0, 0, 0)) none) (cond (Nat.beq pc 10) (some (.goto 8, 13, 18, 0, 0, 0)) none)) (cond (Nat.beq pc 9) (some (.iconst (-1), 10, 0, 0, 0, 0)) none))) (cond (Nat.ble 2 pc) (cond (Nat.ble 5 pc) (cond (Nat.ble 6 pc) (cond (Nat.beq pc 6) (some (.ifCond .ge 7, 9, 13, 0, 0, 0)) none) (cond (Nat.beq pc 5) (some (.iload_n 1, 6, 0, 0, 0, 0)) none)) (cond (Nat.beq pc 2) (some (.putfield 95, 5, 11, 0, 975, 0)) none)) (cond (Nat.ble 1 pc) (cond (Nat.beq pc 1) (some (.iconst 0, 2, 0, 0, 0, 0)) none) (cond (Nat.beq pc 0) (some (.aload_n 0, 1, 0, 0, 0, 0)) none))))
def rc_179 (pc : Nat) : Option RI := cond (Nat.ble 281 pc) none (cond (Nat.ble 142 pc) (cond (Nat.ble 207 pc) (cond (Nat.ble 245 pc) (cond (Nat.ble 261 pc) (cond (Nat.ble 272 pc) (cond (Nat.ble 274 pc) (cond (Nat.ble 277 pc) (cond (Nat.ble 280 pc) (cond (Nat.beq pc 280) (some (.ireturn, 281, 0, 0, 0, 0)) none) (cond (Nat.beq pc 277) (some (.invokevirtual 176, 280, 134, 0, 1139, 0)) none)) (cond (Nat.beq pc 274) (some (.getfield 302, 277, 11, 44, 1019, 0)) none)) (cond (Nat.ble 273 pc) (cond (Nat.beq pc 273) (some (.aload_n 0, 274, 0, 0, 0, 0)) none) (cond (Nat.beq pc 272) (some (.aload_n 0, 273, 0, 0, 0, 0)) none))) (cond (Nat.ble 265 pc) (cond (Nat.ble 266 pc) (cond (Nat.ble 269 pc) (cond (Nat.beq pc 269) (some (.putfield 89, 272, 11, 45, 1020, 0)) none) (cond (Nat.beq pc 266) (some (.getfield 282, 269, 11, 43, 1018, 0)) none)) (cond (Nat.beq pc 265) (some (.aload_n 0, 266, 0, 0, 0, 0)) none)) (cond (Nat.ble 264 pc) (cond (Nat.beq pc 264) (some (.aload_n 0, 265, 0, 0, 0, 0)) none) (cond (Nat.beq pc 261) (some (.goto (-69), 264, 192, 0, 0, 0)) none)))) (cond (Nat.ble 250 pc) (cond (Nat.ble 254 pc) (cond (Nat.ble 255 pc) (cond (Nat.ble 258 pc) (cond (Nat.beq pc 258) (some (.iinc 3 1, 261, 0, 0, 0, 0)) none) (cond (Nat.beq pc 255) (some (.putfield 302, 258, 11, 44, 1019, 0)) none)) (cond (Nat.beq pc 254) (some (.iadd, 255, 0, 0, 0, 0)) none)) (cond (Nat.ble 253 pc) (cond (Nat.beq pc 253) (some (.iconst 1, 254, 0, 0, 0, 0)) none) (cond (Nat.beq pc 250) (some (.getfield 302, 253, 11, 44, 1019, 0)) none))) (cond (Nat.ble 247 pc) (cond (Nat.ble 248 pc) (cond (Nat.ble 249 pc) (cond (Nat.beq pc 249) (some (.dup, 250, 0, 0, 0, 0)) none) (cond (Nat.beq pc 248) (some (.aload_n 0, 249, 0, 0, 0, 0)) none)) (cond (Nat.beq pc 247) (some (.iastore, 248, 0, 0, 0, 0)) none)) (cond (Nat.ble 246 pc) (cond (Nat.beq pc 246) (some (.iaload, 247, 0, 0, 0, 0)) none) (cond (Nat.beq pc 245) (some (.iaload, 246, 0, 0, 0, 0)) none))))) (cond (Nat.ble 227 pc) (cond (Nat.ble 236 pc) (cond (Nat.ble 240 pc) (cond (Nat.ble 241 pc) (cond (Nat.ble 244 pc) (cond (Nat.beq pc 244) (some (.iload_n 3, 245, 0, 0, 0, 0)) none) (cond (Nat.beq pc 241) (some (.getfield 80, 244, 11, 38, 1013, 0)) none)) (cond (Nat.beq pc 240) (some (.aload_n 0, 241, 0, 0, 0, 0)) none)) (cond (Nat.ble 237 pc) (cond (Nat.beq pc 237) (some (.getfield 74, 240, 11, 36, 1011, 0)) none) (cond (Nat.beq pc 236) (some (.aload_n 0, 237, 0, 0, 0, 0)) none))) (cond (Nat.ble 229 pc) (cond (Nat.ble 232 pc) (cond (Nat.ble 233 pc) (cond (Nat.beq pc 233) (some (.getfield 302, 236, 11, 44, 1019, 0)) none) (cond (Nat.beq pc 232) (some (.aload_n 0, 233, 0, 0, 0, 0)) none)) (cond (Nat.beq pc 229) (some (.getfield 86, 232, 11, 40, 1015, 0)) none)) (cond (Nat.ble 228 pc) (cond (Nat.beq pc 228) (some (.aload_n 0, 229, 0, 0, 0, 0)) none) (cond (Nat.beq pc 227) (some (.iastore, 228, 0, 0, 0, 0)) none)))) (cond (Nat.ble 218 pc) (cond (Nat.ble 222 pc) (cond (Nat.ble 225 pc) (cond (Nat.ble 226 pc) (cond (Nat.beq pc 226) (some (.iaload, 227, 0, 0, 0, 0)) none) (cond (Nat.beq pc 225) (some (.iload_n 3, 226, 0, 0, 0, 0)) none)) (cond (Nat.beq pc 222) (some (.getfield 71, 225, 11, 35, 1010, 0)) none)) (cond (Nat.ble 221 pc) (cond (Nat.beq pc 221) (some (.aload_n 0, 222, 0, 0, 0, 0)) none) (cond (Nat.beq pc 218) (some (.getfield 302, 221, 11, 44, 1019, 0)) none))) (cond (Nat.ble 213 pc) (cond (Nat.ble 214 pc) (cond (Nat.ble 217 pc) (cond (Nat.beq pc 217) (some (.aload_n 0, 218, 0, 0, 0, 0)) none) (cond (Nat.beq pc 214) (some (.getfield 83, 217, 11, 39, 1014, 0)) none)) (cond (Nat.beq pc 213) (some (.aload_n 0, 214, 0, 0, 0, 0)) none)) (cond (Nat.ble 210 pc) (cond (Nat.beq pc 210) (some (.goto 48, 213, 258, 0, 0, 0)) none) (cond (Nat.beq pc 207) (some (.if_icmp .ne 6, 210, 213, 0, 0, 0)) none)))))) (cond (Nat.ble 173 pc) (cond (Nat.ble 191 pc) (cond (Nat.ble 200 pc) (cond (Nat.ble 204 pc) (cond (Nat.ble 205 pc) (cond (Nat.ble 206 pc) (cond (Nat.beq pc 206) (some (.iconst (-1), 207, 0, 0, 0, 0)) none) (cond (Nat.beq pc 205) (some (.iaload, 206, 0, 0, 0, 0)) none)) (cond (Nat.beq pc 204) (some (.iload_n 3, 205, 0, 0, 0, 0)) none)) (cond (Nat.ble 201 pc) (cond (Nat.beq pc 201) (some (.getfield 80, 204, 11, 38, 1013, 0)) none) (cond (Nat.beq pc 200) (some (.aload_n 0, 201, 0, 0, 0, 0)) none))) (cond (Nat.ble 193 pc) (cond (Nat.ble 194 pc) (cond (Nat.ble 197 pc) (cond (Nat.beq pc 197) (some (.if_icmp .ge 67, 200, 264, 0, 0, 0)) none) (cond (Nat.beq pc 194) (some (.getfield 285, 197, 11, 41, 1016, 0)) none)) (cond (Nat.beq pc 193) (some (.aload_n 0, 194, 0, 0, 0, 0)) none)) (cond (Nat.ble 192 pc) (cond (Nat.beq pc 192) (some (.iload_n 3, 193, 0, 0, 0, 0)) none) (cond (Nat.beq pc 191) (some (.istore_n 3, 192, 0, 0, 0, 0)) none)))) (cond (Nat.ble 182 pc) (cond (Nat.ble 186 pc) (cond (Nat.ble 187 pc) (cond (Nat.ble 190 pc) (cond (Nat.beq pc 190) (some (.iconst 0, 191, 0, 0, 0, 0)) none) (cond (Nat.beq pc 187) (some (.putfield 302, 190, 11, 44, 1019, 0)) none)) (cond (Nat.beq pc 186) (some (.iconst 0, 187, 0, 0, 0, 0)) none)) (cond (Nat.ble 185 pc) (cond (Nat.beq pc 185) (some (.aload_n 0, 186, 0, 0, 0, 0)) none) (cond (Nat.beq pc 182) (some (.invokevirtual 295, 185, 181, 0, 1331, 0)) none))) (cond (Nat.ble 177 pc) (cond (Nat.ble 178 pc) (cond (Nat.ble 181 pc) (cond (Nat.beq pc 181) (some (.iconst 0, 182, 0, 0, 0, 0)) none) (cond (Nat.beq pc 178) (some (.invokestatic 299, 181, 180, 0, 1328, 0)) none)) (cond (Nat.beq pc 177) (some (.isub, 178, 0, 0, 0, 0)) none)) (cond (Nat.ble 174 pc) (cond (Nat.beq pc 174) (some (.getfield 288, 177, 11, 42, 1017, 0)) none) (cond (Nat.beq pc 173) (some (.aload_n 0, 174, 0, 0, 0, 0)) none))))) (cond (Nat.ble 157 pc) (cond (Nat.ble 166 pc) (cond (Nat.ble 168 pc) (cond (Nat.ble 169 pc) (cond (Nat.ble 170 pc) (cond (Nat.beq pc 170) (some (.getfield 285, 173, 11, 41, 1016, 0)) none) (cond (Nat.beq pc 169) (some (.aload_n 0, 170, 0, 0, 0, 0)) none)) (cond (Nat.beq pc 168) (some (.iconst 0, 169, 0, 0, 0, 0)) none)) (cond (Nat.ble 167 pc) (cond (Nat.beq pc 167) (some (.iconst 0, 168, 0, 0, 0, 0)) none) (cond (Nat.beq pc 166) (some (.iconst 0, 167, 0, 0, 0, 0)) none))) (cond (Nat.ble 161 pc) (cond (Nat.ble 162 pc) (cond (Nat.ble 165 pc) (cond (Nat.beq pc 165) (some (.aload_n 0, 166, 0, 0, 0, 0)) none) (cond (Nat.beq pc 162) (some (.putfield 282, 165, 11, 43, 1018, 0)) none)) (cond (Nat.beq pc 161) (some (.iconst (-1), 162, 0, 0, 0, 0)) none)) (cond (Nat.ble 160 pc) (cond (Nat.beq pc 160) (some (.aload_n 0, 161, 0, 0, 0, 0)) none) (cond (Nat.beq pc 157) (some (.goto (-118), 160, 39, 0, 0, 0)) none)))) (cond (Nat.ble 146 pc) (cond (Nat.ble 150 pc) (cond (Nat.ble 151 pc) (cond (Nat.ble 154 pc) (cond (Nat.beq pc 154) (some (.iinc 3 1, 157, 0, 0, 0, 0)) none) (cond (Nat.beq pc 151) (some (.putfield 285, 154, 11, 41, 1016, 0)) none)) (cond (Nat.beq pc 150) (some (.iadd, 151, 0, 0, 0, 0)) none)) (cond (Nat.ble 149 pc) (cond (Nat.beq pc 149) (some (.iconst 1, 150, 0, 0, 0, 0)) none) (cond (Nat.beq pc 146) (some (.getfield 285, 149, 11, 41, 1016, 0)) none))) (cond (Nat.ble 144 pc) (cond (Nat.ble 145 pc) (cond (Nat.beq pc 145) (some (.dup, 146, 0, 0, 0, 0)) none) (cond (Nat.beq pc 144) (some (.aload_n 0, 145, 0, 0, 0, 0)) none)) (cond (Nat.ble 143 pc) (cond (Nat.beq pc 143) (some (.iastore, 144, 0, 0, 0, 0)) none) (cond (Nat.beq pc 142) (some (.iload_n 3, 143, 0, 0, 0, 0)) none))))))) (cond (Nat.ble 67 pc) (cond (Nat.ble 103 pc) (cond (Nat.ble 121 pc) (cond (Nat.ble 131 pc) (cond (Nat.ble 135 pc) (cond (Nat.ble 138 pc) (cond (Nat.ble 139 pc) (cond (Nat.beq pc 139) (some (.getfield 285, 142, 11, 41, 1016, 0)) none) (cond (Nat.beq pc 138) (some (.aload_n 0, 139, 0, 0, 0, 0)) none)) (cond (Nat.beq pc 135) (some (.getfield 71, 138, 11, 35, 1010, 0)) none)) (cond (Nat.ble 134 pc) (cond (Nat.beq pc 134) (some (.aload_n 0, 135, 0, 0, 0, 0)) none) (cond (Nat.beq pc 131) (some (.if_icmp .ge 23, 134, 154, 0, 0, 0)) none))) (cond (Nat.ble 125 pc) (cond (Nat.ble 126 pc) (cond (Nat.ble 129 pc) (cond (Nat.beq pc 129) (some (.bipush 6, 131, 0, 0, 0, 0)) none) (cond (Nat.beq pc 126) (some (.getfield 285, 129, 11, 41, 1016, 0)) none)) (cond (Nat.beq pc 125) (some (.aload_n 0, 126, 0, 0, 0, 0)) none)) (cond (Nat.ble 122 pc) (cond (Nat.beq pc 122) (some (.if_icmp .ne 32, 125, 154, 0, 0, 0)) none) (cond (Nat.beq pc 121) (some (.iload_n 1, 122, 0, 0, 0, 0)) none)))) (cond (Nat.ble 114 pc) (cond (Nat.ble 118 pc) (cond (Nat.ble 119 pc) (cond (Nat.ble 120 pc) (cond (Nat.beq pc 120) (some (.iaload, 121, 0, 0, 0, 0)) none) (cond (Nat.beq pc 119) (some (.iaload, 120, 0, 0, 0, 0)) none)) (cond (Nat.beq pc 118) (some (.iload_n 3, 119, 0, 0, 0, 0)) none)) (cond (Nat.ble 115 pc) (cond (Nat.beq pc 115) (some (.getfield 62, 118, 11, 31, 1006, 0)) none) (cond (Nat.beq pc 114) (some (.aload_n 0, 115, 0, 0, 0, 0)) none))) (cond (Nat.ble 107 pc) (cond (Nat.ble 110 pc) (cond (Nat.ble 111 pc) (cond (Nat.beq pc 111) (some (.getfield 44, 114, 11, 25, 1000, 0)) none) (cond (Nat.beq pc 110) (some (.aload_n 0, 111, 0, 0, 0, 0)) none)) (cond (Nat.beq pc 107) (some (.goto 47, 110, 154, 0, 0, 0)) none)) (cond (Nat.ble 104 pc) (cond (Nat.beq pc 104) (some (.putfield 288, 107, 11, 42, 1017, 0)) none) (cond (Nat.beq pc 103) (some (.iadd, 104, 0, 0, 0, 0)) none))))) (cond (Nat.ble 87 pc) (cond (Nat.ble 96 pc) (cond (Nat.ble 98 pc) (cond (Nat.ble 99 pc) (cond (Nat.ble 102 pc) (cond (Nat.beq pc 102) (some (.iconst 1, 103, 0, 0, 0, 0)) none) (cond (Nat.beq pc 99) (some (.getfield 288, 102, 11, 42, 1017, 0)) none)) (cond (Nat.beq pc 98) (some (.dup, 99, 0, 0, 0, 0)) none)) (cond (Nat.ble 97 pc) (cond (Nat.beq pc 97) (some (.aload_n 0, 98, 0, 0, 0, 0)) none) (cond (Nat.beq pc 96) (some (.iastore, 97, 0, 0, 0, 0)) none))) (cond (Nat.ble 91 pc) (cond (Nat.ble 92 pc) (cond (Nat.ble 95 pc) (cond (Nat.beq pc 95) (some (.iload_n 3, 96, 0, 0, 0, 0)) none) (cond (Nat.beq pc 92) (some (.getfield 288, 95, 11, 42, 1017, 0)) none)) (cond (Nat.beq pc 91) (some (.aload_n 0, 92, 0, 0, 0, 0)) none)) (cond (Nat.ble 88 pc) (cond (Nat.beq pc 88) (some (.getfield 74, 91, 11, 36, 1011, 0)) none) (cond (Nat.beq pc 87) (some (.aload_n 0, 88, 0, 0, 0, 0)) none)))) (cond (Nat.ble 75 pc) (cond (Nat.ble 79 pc) (cond (Nat.ble 82 pc) (cond (Nat.ble 84 pc) (cond (Nat.beq pc 84) (some (.if_icmp .ge 26, 87, 110, 0, 0, 0)) none) (cond (Nat.beq pc 82) (some (.bipush 6, 84, 0, 0, 0, 0)) none)) (cond (Nat.beq pc 79) (some (.getfield 288, 82, 11, 42, 1017, 0)) none)) (cond (Nat.ble 78 pc) (cond (Nat.beq pc 78) (some (.aload_n 0, 79, 0, 0, 0, 0)) none) (cond (Nat.beq pc 75) (some (.ifCond .eq 35, 78, 110, 0, 0, 0)) none))) (cond (Nat.ble 71 pc) (cond (Nat.ble 72 pc) (cond (Nat.beq pc 72) (some (.invokevirtual 259, 75, 171, 0, 1293, 0)) none) (cond (Nat.beq pc 71) (some (.iload_n 3, 72, 0, 0, 0, 0)) none)) (cond (Nat.ble 70 pc) (cond (Nat.beq pc 70) (some (.aload_n 0, 71, 0, 0, 0, 0)) none) (cond (Nat.beq pc 67) (some (.goto 87, 70, 154, 0, 0, 0)) none)))))) (cond (Nat.ble 33 pc) (cond (Nat.ble 51 pc) (cond (Nat.ble 58 pc) (cond (Nat.ble 62 pc) (cond (Nat.ble 63 pc) (cond (Nat.ble 64 pc) (cond (Nat.beq pc 64) (some (.if_icmp .eq 6, 67, 70, 0, 0, 0)) none) (cond (Nat.beq pc 63) (some (.iload_n 2, 64, 0, 0, 0, 0)) none)) (cond (Nat.beq pc 62) (some (.iaload, 63, 0, 0, 0, 0)) none)) (cond (Nat.ble 61 pc) (cond (Nat.beq pc 61) (some (.iload_n 3, 62, 0, 0, 0, 0)) none) (cond (Nat.beq pc 58) (some (.getfield 56, 61, 11, 29, 1004, 0)) none))) (cond (Nat.ble 53 pc) (cond (Nat.ble 54 pc) (cond (Nat.ble 57 pc) (cond (Nat.beq pc 57) (some (.aload_n 0, 58, 0, 0, 0, 0)) none) (cond (Nat.beq pc 54) (some (.if_icmp .ne 100, 57, 154, 0, 0, 0)) none)) (cond (Nat.beq pc 53) (some (.iload_n 1, 54, 0, 0, 0, 0)) none)) (cond (Nat.ble 52 pc) (cond (Nat.beq pc 52) (some (.iaload, 53, 0, 0, 0, 0)) none) (cond (Nat.beq pc 51) (some (.iload_n 3, 52, 0, 0, 0, 0)) none)))) (cond (Nat.ble 40 pc) (cond (Nat.ble 44 pc) (cond (Nat.ble 47 pc) (cond (Nat.ble 48 pc) (cond (Nat.beq pc 48) (some (.getfield 59, 51, 11, 30, 1005, 0)) none) (cond (Nat.beq pc 47) (some (.aload_n 0, 48, 0, 0, 0, 0)) none)) (cond (Nat.beq pc 44) (some (.if_icmp .ge 116, 47, 160, 0, 0, 0)) none)) (cond (Nat.ble 41 pc) (cond (Nat.beq pc 41) (some (.getfield 224, 44, 11, 23, 998, 0)) none) (cond (Nat.beq pc 40) (some (.aload_n 0, 41, 0, 0, 0, 0)) none))) (cond (Nat.ble 37 pc) (cond (Nat.ble 38 pc) (cond (Nat.ble 39 pc) (cond (Nat.beq pc 39) (some (.iload_n 3, 40, 0, 0, 0, 0)) none) (cond (Nat.beq pc 38) (some (.istore_n 3, 39, 0, 0, 0, 0)) none)) (cond (Nat.beq pc 37) (some (.iconst 0, 38, 0, 0, 0, 0)) none)) (cond (Nat.ble 34 pc) (cond (Nat.beq pc 34) (some (.putfield 288, 37, 11, 42, 1017, 0)) none) (cond (Nat.beq pc 33) (some (.iconst 0, 34, 0, 0, 0, 0)) none))))) (cond (Nat.ble 15 pc) (cond (Nat.ble 26 pc) (cond (Nat.ble 28 pc) (cond (Nat.ble 29 pc) (cond (Nat.ble 32 pc) (cond (Nat.beq pc 32) (some (.aload_n 0, 33, 0, 0, 0, 0)) none) (cond (Nat.beq pc 29) (some (.putfield 285, 32, 11, 41, 1016, 0)) none)) (cond (Nat.beq pc 28) (some (.iconst 0, 29, 0, 0, 0, 0)) none)) (cond (Nat.ble 27 pc) (cond (Nat.beq pc 27) (some (.aload_n 0, 28, 0, 0, 0, 0)) none) (cond (Nat.beq pc 26) (some (.ireturn, 27, 0, 0, 0, 0)) none))) (cond (Nat.ble 21 pc) (cond (Nat.ble 22 pc) (cond (Nat.ble 23 pc) (cond (Nat.beq pc 23) (some (.invokevirtual 173, 26, 133, 0, 1135, 0)) none) (cond (Nat.beq pc 22) (some (.iconst 1, 23, 0, 0, 0, 0)) none)) (cond (Nat.beq pc 21) (some (.aload_n 0, 22, 0, 0, 0, 0)) none)) (cond (Nat.ble 18 pc) (cond (Nat.beq pc 18) (some (.ifCond .ne 9, 21, 27, 0, 0, 0)) none) (cond (Nat.beq pc 15) (some (.invokevirtual 262, 18, 169, 0, 1285, 0)) none)))) (cond (Nat.ble 6 pc) (cond (Nat.ble 10 pc) (cond (Nat.ble 13 pc) (cond (Nat.ble 14 pc) (cond (Nat.beq pc 14) (some (.iload_n 2, 15, 0, 0, 0, 0)) none) (cond (Nat.beq pc 13) (some (.aload_n 0, 14, 0, 0, 0, 0)) none)) (cond (Nat.beq pc 10) (some (.ifCond .eq 11, 13, 21, 0, 0, 0)) none)) (cond (Nat.ble 7 pc) (cond (Nat.beq pc 7) (some (.invokevirtual 193, 10, 143, 0, 1174, 0)) none) (cond (Nat.beq pc 6) (some (.iload_n 1, 7, 0, 0, 0, 0)) none))) (cond (Nat.ble 2 pc) (cond (Nat.ble 5 pc) (cond (Nat.beq pc 5) (some (.aload_n 0, 6, 0, 0, 0, 0)) none) (cond (Nat.beq pc 2) (some (.putfield 95, 5, 11, 0, 975, 0)) none)) (cond (Nat.ble 1 pc) (cond (Nat.beq pc 1) (some (.iconst 0, 2, 0, 0, 0, 0)) none) (cond (Nat.beq pc 0) (some (.aload_n 0, 1, 0, 0, 0, 0)) none))))))))
def rc_180 (pc : Nat) : Option RI := cond (Nat.ble 11 pc) none (cond (Nat.ble 5 pc) (cond (Nat.ble 9 pc) (cond (Nat.ble 10 pc) (cond (Nat.beq pc 10) (some (.ireturn, 11, 0, 0, 0, 0)) none) (cond (Nat.beq pc 9) (some (.iload_n 1, 10, 0, 0, 0, 0)) none)) (cond (Nat.ble 6 pc) (cond (Nat.beq pc 6) (some (.goto 4, 9, 10, 0, 0, 0)) none) (cond (Nat.beq pc 5) (some (.iload_n 0, 6, 0, 0, 0, 0)) none))) (cond (Nat.ble 1 pc) (cond (Nat.ble 2 pc) (cond (Nat.beq pc 2) (some (.if_icmp .lt 7, 5, 9, 0, 0, 0)) none) (cond (Nat.beq pc 1) (some (.iload_n 1, 2, 0, 0, 0, 0)) none)) (cond (Nat.beq pc 0) (some (.iload_n 0, 1, 0, 0, 0, 0)) none)))
def rc_181 (pc : Nat) : Option RI := cond (Nat.ble 164 pc) none (cond (Nat.ble 91 pc) (cond (Nat.ble 125 pc) (cond (Nat.ble 149 pc) (cond (Nat.ble 155 pc) (cond (Nat.ble 158 pc) (cond (Nat.ble 160 pc) (cond (Nat.ble 163 pc) (cond (Nat.beq pc 163) (some (.return_, 164, 0, 0, 0, 0)) none) (cond (Nat.beq pc 160) (some (.invokevirtual 295, 163, 181, 0, 1331, 0)) none)) (cond (Nat.beq pc 158) (some (.iload 4, 160, 0, 0, 0, 0)) none)) (cond (Nat.ble 156 pc) (cond (Nat.ble 157 pc) (cond (Nat.beq pc 157) (some (.isub, 158, 0, 0, 0, 0)) none) (cond (Nat.beq pc 156) (some (.iconst 1, 157, 0, 0, 0, 0)) none)) (cond (Nat.beq pc 155) (some (.iload_n 3, 156, 0, 0, 0, 0)) none))) (cond (Nat.ble 152 pc) (cond (Nat.ble 153 pc) (cond (Nat.ble 154 pc) (cond (Nat.beq pc 154) (some (.iload_n 2, 155, 0, 0, 0, 0)) none) (cond (Nat.beq pc 153) (some (.iadd, 154, 0, 0, 0, 0)) none)) (cond (Nat.beq pc 152) (some (.iconst 1, 153, 0, 0, 0, 0)) none)) (cond (Nat.ble 150 pc) (cond (Nat.ble 151 pc) (cond (Nat.beq pc 151) (some (.iload_n 1, 152, 0, 0, 0, 0)) none) (cond (Nat.beq pc 150) (some (.aload_n 0, 151, 0, 0, 0, 0)) none)) (cond (Nat.beq pc 149) (some (.iastore, 150, 0, 0, 0, 0)) none)))) (cond (Nat.ble 139 pc) (cond (Nat.ble 144 pc) (cond (Nat.ble 147 pc) (cond (Nat.ble 148 pc) (cond (Nat.beq pc 148) (some (.iconst (-1), 149, 0, 0, 0, 0)) none) (cond (Nat.beq pc 147) (some (.iload_n 1, 148, 0, 0, 0, 0)) none)) (cond (Nat.beq pc 144) (some (.getfield 77, 147, 11, 37, 1012, 0)) none)) (cond (Nat.ble 142 pc) (cond (Nat.ble 143 pc) (cond (Nat.beq pc 143) (some (.aload_n 0, 144, 0, 0, 0, 0)) none) (cond (Nat.beq pc 142) (some (.return_, 143, 0, 0, 0, 0)) none)) (cond (Nat.beq pc 139) (some (.ifCond .ne 4, 142, 143, 0, 0, 0)) none))) (cond (Nat.ble 132 pc) (cond (Nat.ble 135 pc) (cond (Nat.ble 138 pc) (cond (Nat.beq pc 138) (some (.iload_n 3, 139, 0, 0, 0, 0)) none) (cond (Nat.beq pc 135) (some (.goto (-67), 138, 68, 0, 0, 0)) none)) (cond (Nat.beq pc 132) (some (.iinc 5 1, 135, 0, 0, 0, 0)) none)) (cond (Nat.ble 128 pc) (cond (Nat.ble 129 pc) (cond (Nat.beq pc 129) (some (.invokevirtual 295, 132, 181, 0, 1331, 0)) none) (cond (Nat.beq pc 128) (some (.iadd, 129, 0, 0, 0, 0)) none)) (cond (Nat.beq pc 125) (some (.invokevirtual 291, 128, 182, 0, 1335, 0)) none))))) (cond (Nat.ble 107 pc) (cond (Nat.ble 116 pc) (cond (Nat.ble 119 pc) (cond (Nat.ble 122 pc) (cond (Nat.ble 124 pc) (cond (Nat.beq pc 124) (some (.iaload, 125, 0, 0, 0, 0)) none) (cond (Nat.beq pc 122) (some (.iload 5, 124, 0, 0, 0, 0)) none)) (cond (Nat.beq pc 119) (some (.getfield 74, 122, 11, 36, 1011, 0)) none)) (cond (Nat.ble 117 pc) (cond (Nat.ble 118 pc) (cond (Nat.beq pc 118) (some (.aload_n 0, 119, 0, 0, 0, 0)) none) (cond (Nat.beq pc 117) (some (.iaload, 118, 0, 0, 0, 0)) none)) (cond (Nat.beq pc 116) (some (.iload_n 1, 117, 0, 0, 0, 0)) none))) (cond (Nat.ble 111 pc) (cond (Nat.ble 112 pc) (cond (Nat.ble 113 pc) (cond (Nat.beq pc 113) (some (.getfield 71, 116, 11, 35, 1010, 0)) none) (cond (Nat.beq pc 112) (some (.aload_n 0, 113, 0, 0, 0, 0)) none)) (cond (Nat.beq pc 111) (some (.aload_n 0, 112, 0, 0, 0, 0)) none)) (cond (Nat.ble 108 pc) (cond (Nat.ble 109 pc) (cond (Nat.beq pc 109) (some (.iload 4, 111, 0, 0, 0, 0)) none) (cond (Nat.beq pc 108) (some (.iload_n 3, 109, 0, 0, 0, 0)) none)) (cond (Nat.beq pc 107) (some (.ior, 108, 0, 0, 0, 0)) none)))) (cond (Nat.ble 100 pc) (cond (Nat.ble 103 pc) (cond (Nat.ble 104 pc) (cond (Nat.ble 106 pc) (cond (Nat.beq pc 106) (some (.ishl, 107, 0, 0, 0, 0)) none) (cond (Nat.beq pc 104) (some (.iload 5, 106, 0, 0, 0, 0)) none)) (cond (Nat.beq pc 103) (some (.iconst 1, 104, 0, 0, 0, 0)) none)) (cond (Nat.ble 101 pc) (cond (Nat.ble 102 pc) (cond (Nat.beq pc 102) (some (.iload_n 2, 103, 0, 0, 0, 0)) none) (cond (Nat.beq pc 101) (some (.iadd, 102, 0, 0, 0, 0)) none)) (cond (Nat.beq pc 100) (some (.iconst 1, 101, 0, 0, 0, 0)) none))) (cond (Nat.ble 97 pc) (cond (Nat.ble 98 pc) (cond (Nat.ble 99 pc) (cond (Nat.beq pc 99) (some (.iload_n 1, 100, 0, 0, 0, 0)) none) (cond (Nat.beq pc 98) (some (.aload_n 0, 99, 0, 0, 0, 0)) none)) (cond (Nat.beq pc 97) (some (.iastore, 98, 0, 0, 0, 0)) none)) (cond (Nat.ble 94 pc) (cond (Nat.ble 95 pc) (cond (Nat.beq pc 95) (some (.iload 5, 97, 0, 0, 0, 0)) none) (cond (Nat.beq pc 94) (some (.iload_n 1, 95, 0, 0, 0, 0)) none)) (cond (Nat.beq pc 91) (some (.getfield 77, 94, 11, 37, 1012, 0)) none)))))) (cond (Nat.ble 48 pc) (cond (Nat.ble 70 pc) (cond (Nat.ble 81 pc) (cond (Nat.ble 84 pc) (cond (Nat.ble 87 pc) (cond (Nat.ble 90 pc) (cond (Nat.beq pc 90) (some (.aload_n 0, 91, 0, 0, 0, 0)) none) (cond (Nat.beq pc 87) (some (.goto 45, 90, 132, 0, 0, 0)) none)) (cond (Nat.beq pc 84) (some (.if_icmp .ne 6, 87, 90, 0, 0, 0)) none)) (cond (Nat.ble 82 pc) (cond (Nat.ble 83 pc) (cond (Nat.beq pc 83) (some (.iconst 1, 84, 0, 0, 0, 0)) none) (cond (Nat.beq pc 82) (some (.iand, 83, 0, 0, 0, 0)) none)) (cond (Nat.beq pc 81) (some (.iconst 1, 82, 0, 0, 0, 0)) none))) (cond (Nat.ble 77 pc) (cond (Nat.ble 78 pc) (cond (Nat.ble 80 pc) (cond (Nat.beq pc 80) (some (.ishr, 81, 0, 0, 0, 0)) none) (cond (Nat.beq pc 78) (some (.iload 5, 80, 0, 0, 0, 0)) none)) (cond (Nat.beq pc 77) (some (.iload_n 2, 78, 0, 0, 0, 0)) none)) (cond (Nat.ble 71 pc) (cond (Nat.ble 74 pc) (cond (Nat.beq pc 74) (some (.if_icmp .ge 64, 77, 138, 0, 0, 0)) none) (cond (Nat.beq pc 71) (some (.getfield 288, 74, 11, 42, 1017, 0)) none)) (cond (Nat.beq pc 70) (some (.aload_n 0, 71, 0, 0, 0, 0)) none)))) (cond (Nat.ble 58 pc) (cond (Nat.ble 65 pc) (cond (Nat.ble 66 pc) (cond (Nat.ble 68 pc) (cond (Nat.beq pc 68) (some (.iload 5, 70, 0, 0, 0, 0)) none) (cond (Nat.beq pc 66) (some (.istore 5, 68, 0, 0, 0, 0)) none)) (cond (Nat.beq pc 65) (some (.iconst 0, 66, 0, 0, 0, 0)) none)) (cond (Nat.ble 61 pc) (cond (Nat.ble 64 pc) (cond (Nat.beq pc 64) (some (.return_, 65, 0, 0, 0, 0)) none) (cond (Nat.beq pc 61) (some (.goto (-26), 64, 35, 0, 0, 0)) none)) (cond (Nat.beq pc 58) (some (.iinc 5 1, 61, 0, 0, 0, 0)) none))) (cond (Nat.ble 54 pc) (cond (Nat.ble 56 pc) (cond (Nat.ble 57 pc) (cond (Nat.beq pc 57) (some (.iastore, 58, 0, 0, 0, 0)) none) (cond (Nat.beq pc 56) (some (.iaload, 57, 0, 0, 0, 0)) none)) (cond (Nat.beq pc 54) (some (.iload 5, 56, 0, 0, 0, 0)) none)) (cond (Nat.ble 50 pc) (cond (Nat.ble 51 pc) (cond (Nat.beq pc 51) (some (.getfield 77, 54, 11, 37, 1012, 0)) none) (cond (Nat.beq pc 50) (some (.aload_n 0, 51, 0, 0, 0, 0)) none)) (cond (Nat.beq pc 48) (some (.iload 5, 50, 0, 0, 0, 0)) none))))) (cond (Nat.ble 23 pc) (cond (Nat.ble 35 pc) (cond (Nat.ble 41 pc) (cond (Nat.ble 44 pc) (cond (Nat.ble 45 pc) (cond (Nat.beq pc 45) (some (.getfield 80, 48, 11, 38, 1013, 0)) none) (cond (Nat.beq pc 44) (some (.aload_n 0, 45, 0, 0, 0, 0)) none)) (cond (Nat.beq pc 41) (some (.if_icmp .ge 23, 44, 64, 0, 0, 0)) none)) (cond (Nat.ble 37 pc) (cond (Nat.ble 38 pc) (cond (Nat.beq pc 38) (some (.getfield 285, 41, 11, 41, 1016, 0)) none) (cond (Nat.beq pc 37) (some (.aload_n 0, 38, 0, 0, 0, 0)) none)) (cond (Nat.beq pc 35) (some (.iload 5, 37, 0, 0, 0, 0)) none))) (cond (Nat.ble 29 pc) (cond (Nat.ble 32 pc) (cond (Nat.ble 33 pc) (cond (Nat.beq pc 33) (some (.istore 5, 35, 0, 0, 0, 0)) none) (cond (Nat.beq pc 32) (some (.iconst 0, 33, 0, 0, 0, 0)) none)) (cond (Nat.beq pc 29) (some (.putfield 282, 32, 11, 43, 1018, 0)) none)) (cond (Nat.ble 26 pc) (cond (Nat.ble 27 pc) (cond (Nat.beq pc 27) (some (.iload 4, 29, 0, 0, 0, 0)) none) (cond (Nat.beq pc 26) (some (.aload_n 0, 27, 0, 0, 0, 0)) none)) (cond (Nat.beq pc 23) (some (.if_icmp .ne 42, 26, 65, 0, 0, 0)) none)))) (cond (Nat.ble 11 pc) (cond (Nat.ble 18 pc) (cond (Nat.ble 19 pc) (cond (Nat.ble 20 pc) (cond (Nat.beq pc 20) (some (.getfield 285, 23, 11, 41, 1016, 0)) none) (cond (Nat.beq pc 19) (some (.aload_n 0, 20, 0, 0, 0, 0)) none)) (cond (Nat.beq pc 18) (some (.iload_n 1, 19, 0, 0, 0, 0)) none)) (cond (Nat.ble 14 pc) (cond (Nat.ble 17 pc) (cond (Nat.beq pc 17) (some (.return_, 18, 0, 0, 0, 0)) none) (cond (Nat.beq pc 14) (some (.if_icmp .lt 4, 17, 18, 0, 0, 0)) none)) (cond (Nat.beq pc 11) (some (.getfield 282, 14, 11, 43, 1018, 0)) none))) (cond (Nat.ble 5 pc) (cond (Nat.ble 8 pc) (cond (Nat.ble 10 pc) (cond (Nat.beq pc 10) (some (.aload_n 0, 11, 0, 0, 0, 0)) none) (cond (Nat.beq pc 8) (some (.iload 4, 10, 0, 0, 0, 0)) none)) (cond (Nat.beq pc 5) (some (.if_icmp .eq 13, 8, 18, 0, 0, 0)) none)) (cond (Nat.ble 1 pc) (cond (Nat.ble 4 pc) (cond (Nat.beq pc 4) (some (.iconst (-1), 5, 0, 0, 0, 0)) none) (cond (Nat.beq pc 1) (some (.getfield 282, 4, 11, 43, 1018, 0)) none)) (cond (Nat.beq pc 0) (some (.aload_n 0, 1, 0, 0, 0, 0)) none)))))))
def rc_182 (pc : Nat) : Option RI := cond (Nat.ble 48 pc) none (cond (Nat.ble 23 pc) (cond (Nat.ble 34 pc) (cond (Nat.ble 40 pc) (cond (Nat.ble 46 pc) (cond (Nat.ble 47 pc) (cond (Nat.beq pc 47) (some (.ireturn, 48, 0, 0, 0, 0)) none) (cond (Nat.beq pc 46) (some (.iload_n 3, 47, 0, 0, 0, 0)) none)) (cond (Nat.ble 43 pc) (cond (Nat.beq pc 43) (some (.goto (-38), 46, 5, 0, 0, 0)) none) (cond (Nat.beq pc 40) (some (.iinc 4 1, 43, 0, 0, 0, 0)) none))) (cond (Nat.ble 38 pc) (cond (Nat.ble 39 pc) (cond (Nat.beq pc 39) (some (.istore_n 3, 40, 0, 0, 0, 0)) none) (cond (Nat.beq pc 38) (some (.iadd, 39, 0, 0, 0, 0)) none)) (cond (Nat.ble 35 pc) (cond (Nat.beq pc 35) (some (.invokestatic 277, 38, 94, 0, 1339, 0)) none) (cond (Nat.beq pc 34) (some (.isub, 35, 0, 0, 0, 0)) none)))) (cond (Nat.ble 29 pc) (cond (Nat.ble 32 pc) (cond (Nat.ble 33 pc) (cond (Nat.beq pc 33) (some (.iaload, 34, 0, 0, 0, 0)) none) (cond (Nat.beq pc 32) (some (.iadd, 33, 0, 0, 0, 0)) none)) (cond (Nat.ble 30 pc) (cond (Nat.beq pc 30) (some (.iload 4, 32, 0, 0, 0, 0)) none) (cond (Nat.beq pc 29) (some (.imul, 30, 0, 0, 0, 0)) none))) (cond (Nat.ble 27 pc) (cond (Nat.ble 28 pc) (cond (Nat.beq pc 28) (some (.iload_n 2, 29, 0, 0, 0, 0)) none) (cond (Nat.beq pc 27) (some (.iconst 5, 28, 0, 0, 0, 0)) none)) (cond (Nat.ble 24 pc) (cond (Nat.beq pc 24) (some (.getfield 53, 27, 11, 28, 1003, 0)) none) (cond (Nat.beq pc 23) (some (.aload_n 0, 24, 0, 0, 0, 0)) none))))) (cond (Nat.ble 12 pc) (cond (Nat.ble 18 pc) (cond (Nat.ble 21 pc) (cond (Nat.ble 22 pc) (cond (Nat.beq pc 22) (some (.iaload, 23, 0, 0, 0, 0)) none) (cond (Nat.beq pc 21) (some (.iadd, 22, 0, 0, 0, 0)) none)) (cond (Nat.ble 19 pc) (cond (Nat.beq pc 19) (some (.iload 4, 21, 0, 0, 0, 0)) none) (cond (Nat.beq pc 18) (some (.imul, 19, 0, 0, 0, 0)) none))) (cond (Nat.ble 16 pc) (cond (Nat.ble 17 pc) (cond (Nat.beq pc 17) (some (.iload_n 1, 18, 0, 0, 0, 0)) none) (cond (Nat.beq pc 16) (some (.iconst 5, 17, 0, 0, 0, 0)) none)) (cond (Nat.ble 13 pc) (cond (Nat.beq pc 13) (some (.getfield 53, 16, 11, 28, 1003, 0)) none) (cond (Nat.beq pc 12) (some (.aload_n 0, 13, 0, 0, 0, 0)) none)))) (cond (Nat.ble 5 pc) (cond (Nat.ble 8 pc) (cond (Nat.ble 11 pc) (cond (Nat.beq pc 11) (some (.iload_n 3, 12, 0, 0, 0, 0)) none) (cond (Nat.beq pc 8) (some (.if_icmp .ge 38, 11, 46, 0, 0, 0)) none)) (cond (Nat.ble 7 pc) (cond (Nat.beq pc 7) (some (.iconst 5, 8, 0, 0, 0, 0)) none) (cond (Nat.beq pc 5) (some (.iload 4, 7, 0, 0, 0, 0)) none))) (cond (Nat.ble 2 pc) (cond (Nat.ble 3 pc) (cond (Nat.beq pc 3) (some (.istore 4, 5, 0, 0, 0, 0)) none) (cond (Nat.beq pc 2) (some (.iconst 0, 3, 0, 0, 0, 0)) none)) (cond (Nat.ble 1 pc) (cond (Nat.beq pc 1) (some (.istore_n 3, 2, 0, 0, 0, 0)) none) (cond (Nat.beq pc 0) (some (.iconst 0, 1, 0, 0, 0, 0)) none))))))
def rc_183 (pc : Nat) : Option RI := cond (Nat.ble 10 pc) none (cond (Nat.ble 5 pc) (cond (Nat.ble 6 pc) (cond (Nat.ble 9 pc) (cond (Nat.beq pc 9) (some (.ireturn, 10, 0, 0, 0, 0)) none) (cond (Nat.beq pc 6) (some (.getfield 89, 9, 11, 45, 1020, 0)) none)) (cond (Nat.beq pc 5) (some (.aload_n 0, 6, 0, 0, 0, 0)) none)) (cond (Nat.ble 1 pc) (cond (Nat.ble 2 pc) (cond (Nat.beq pc 2) (some (.putfield 95, 5, 11, 0, 975, 0)) none) (cond (Nat.beq pc 1) (some (.iconst 0, 2, 0, 0, 0, 0)) none)) (cond (Nat.beq pc 0) (some (.aload_n 0, 1, 0, 0, 0, 0)) none)))
def rc_184 (pc : Nat) : Option RI := cond (Nat.ble 41 pc) none (cond (Nat.ble 21 pc) (cond (Nat.ble 31 pc) (cond (Nat.ble 36 pc) (cond (Nat.ble 39 pc) (cond (Nat.ble 40 pc) (cond (Nat.beq pc 40) (some (.ireturn, 41, 0, 0, 0, 0)) none) (cond (Nat.beq pc 39) (some (.iconst (-1), 40, 0, 0, 0, 0)) none)) (cond (Nat.beq pc 36) (some (.goto 4, 39, 40, 0, 0, 0)) none)) (cond (Nat.ble 34 pc) (cond (Nat.ble 35 pc) (cond (Nat.beq pc 35) (some (.iaload, 36, 0, 0, 0, 0)) none) (cond (Nat.beq pc 34) (some (.iload_n 1, 35, 0, 0, 0, 0)) none)) (cond (Nat.beq pc 31) (some (.getfield 83, 34, 11, 39, 1014, 0)) none))) (cond (Nat.ble 26 pc) (cond (Nat.ble 27 pc) (cond (Nat.ble 30 pc) (cond (Nat.beq pc 30) (some (.aload_n 0, 31, 0, 0, 0, 0)) none) (cond (Nat.beq pc 27) (some (.goto 13, 30, 40, 0, 0, 0)) none)) (cond (Nat.beq pc 26) (some (.iaload, 27, 0, 0, 0, 0)) none)) (cond (Nat.ble 22 pc) (cond (Nat.ble 25 pc) (cond (Nat.beq pc 25) (some (.iload_n 1, 26, 0, 0, 0, 0)) none) (cond (Nat.beq pc 22) (some (.getfield 86, 25, 11, 40, 1015, 0)) none)) (cond (Nat.beq pc 21) (some (.aload_n 0, 22, 0, 0, 0, 0)) none)))) (cond (Nat.ble 9 pc) (cond (Nat.ble 14 pc) (cond (Nat.ble 17 pc) (cond (Nat.ble 18 pc) (cond (Nat.beq pc 18) (some (.ifCond .eq 12, 21, 30, 0, 0, 0)) none) (cond (Nat.beq pc 17) (some (.iload_n 2, 18, 0, 0, 0, 0)) none)) (cond (Nat.beq pc 14) (some (.if_icmp .ge 25, 17, 39, 0, 0, 0)) none)) (cond (Nat.ble 10 pc) (cond (Nat.ble 11 pc) (cond (Nat.beq pc 11) (some (.getfield 302, 14, 11, 44, 1019, 0)) none) (cond (Nat.beq pc 10) (some (.aload_n 0, 11, 0, 0, 0, 0)) none)) (cond (Nat.beq pc 9) (some (.iload_n 1, 10, 0, 0, 0, 0)) none))) (cond (Nat.ble 2 pc) (cond (Nat.ble 5 pc) (cond (Nat.ble 6 pc) (cond (Nat.beq pc 6) (some (.ifCond .lt 33, 9, 39, 0, 0, 0)) none) (cond (Nat.beq pc 5) (some (.iload_n 1, 6, 0, 0, 0, 0)) none)) (cond (Nat.beq pc 2) (some (.putfield 95, 5, 11, 0, 975, 0)) none)) (cond (Nat.ble 1 pc) (cond (Nat.beq pc 1) (some (.iconst 0, 2, 0, 0, 0, 0)) none) (cond (Nat.beq pc 0) (some (.aload_n 0, 1, 0, 0, 0, 0)) none)))))
def rc_185 (pc : Nat) : Option RI := cond (Nat.ble 34 pc) none (cond (Nat.ble 16 pc) (cond (Nat.ble 25 pc) (cond (Nat.ble 29 pc) (cond (Nat.ble 32 pc) (cond (Nat.ble 33 pc) (cond (Nat.beq pc 33) (some (.ireturn, 34, 0, 0, 0, 0)) none) (cond (Nat.beq pc 32) (some (.iconst (-1), 33, 0, 0, 0, 0)) none)) (cond (Nat.beq pc 29) (some (.goto 4, 32, 33, 0, 0, 0)) none)) (cond (Nat.ble 26 pc) (cond (Nat.beq pc 26) (some (.invokevirtual 304, 29, 186, 0, 1352, 0)) none) (cond (Nat.beq pc 25) (some (.iload_n 3, 26, 0, 0, 0, 0)) none))) (cond (Nat.ble 22 pc) (cond (Nat.ble 23 pc) (cond (Nat.ble 24 pc) (cond (Nat.beq pc 24) (some (.iload_n 2, 25, 0, 0, 0, 0)) none) (cond (Nat.beq pc 23) (some (.iload_n 1, 24, 0, 0, 0, 0)) none)) (cond (Nat.beq pc 22) (some (.aload_n 0, 23, 0, 0, 0, 0)) none)) (cond (Nat.ble 19 pc) (cond (Nat.beq pc 19) (some (.ifCond .eq 13, 22, 32, 0, 0, 0)) none) (cond (Nat.beq pc 16) (some (.invokestatic 160, 19, 137, 0, 1151, 0)) none)))) (cond (Nat.ble 7 pc) (cond (Nat.ble 13 pc) (cond (Nat.ble 14 pc) (cond (Nat.ble 15 pc) (cond (Nat.beq pc 15) (some (.iconst 4, 16, 0, 0, 0, 0)) none) (cond (Nat.beq pc 14) (some (.iconst 0, 15, 0, 0, 0, 0)) none)) (cond (Nat.beq pc 13) (some (.iload_n 2, 14, 0, 0, 0, 0)) none)) (cond (Nat.ble 10 pc) (cond (Nat.beq pc 10) (some (.ifCond .eq 22, 13, 32, 0, 0, 0)) none) (cond (Nat.beq pc 7) (some (.invokevirtual 193, 10, 143, 0, 1174, 0)) none))) (cond (Nat.ble 2 pc) (cond (Nat.ble 5 pc) (cond (Nat.ble 6 pc) (cond (Nat.beq pc 6) (some (.iload_n 1, 7, 0, 0, 0, 0)) none) (cond (Nat.beq pc 5) (some (.aload_n 0, 6, 0, 0, 0, 0)) none)) (cond (Nat.beq pc 2) (some (.putfield 95, 5, 11, 0, 975, 0)) none)) (cond (Nat.ble 1 pc) (cond (Nat.beq pc 1) (some (.iconst 0, 2, 0, 0, 0, 0)) none) (cond (Nat.beq pc 0) (some (.aload_n 0, 1, 0, 0, 0, 0)) none)))))
def rc_186 (pc : Nat) : Option RI := cond (Nat.ble 83 pc) none (cond (Nat.ble 42 pc) (cond (Nat.ble 63 pc) (cond (Nat.ble 71 pc) (cond (Nat.ble 77 pc) (cond (Nat.ble 80 pc) (cond (Nat.ble 82 pc) (cond (Nat.beq pc 82) (some (.ireturn, 83, 0, 0, 0, 0)) none) (cond (Nat.beq pc 80) (some (.iload 4, 82, 0, 0, 0, 0)) none)) (cond (Nat.beq pc 77) (some (.goto (-71), 80, 6, 0, 0, 0)) none)) (cond (Nat.ble 72 pc) (cond (Nat.ble 74 pc) (cond (Nat.beq pc 74) (some (.iinc 5 1, 77, 0, 0, 0, 0)) none) (cond (Nat.beq pc 72) (some (.istore 4, 74, 0, 0, 0, 0)) none)) (cond (Nat.beq pc 71) (some (.iadd, 72, 0, 0, 0, 0)) none))) (cond (Nat.ble 66 pc) (cond (Nat.ble 67 pc) (cond (Nat.ble 70 pc) (cond (Nat.beq pc 70) (some (.iconst 0, 71, 0, 0, 0, 0)) none) (cond (Nat.beq pc 67) (some (.goto 4, 70, 71, 0, 0, 0)) none)) (cond (Nat.beq pc 66) (some (.iaload, 67, 0, 0, 0, 0)) none)) (cond (Nat.ble 64 pc) (cond (Nat.ble 65 pc) (cond (Nat.beq pc 65) (some (.iadd, 66, 0, 0, 0, 0)) none) (cond (Nat.beq pc 64) (some (.iload_n 2, 65, 0, 0, 0, 0)) none)) (cond (Nat.beq pc 63) (some (.imul, 64, 0, 0, 0, 0)) none)))) (cond (Nat.ble 50 pc) (cond (Nat.ble 57 pc) (cond (Nat.ble 60 pc) (cond (Nat.ble 61 pc) (cond (Nat.beq pc 61) (some (.iload 5, 63, 0, 0, 0, 0)) none) (cond (Nat.beq pc 60) (some (.iconst 5, 61, 0, 0, 0, 0)) none)) (cond (Nat.beq pc 57) (some (.getfield 53, 60, 11, 28, 1003, 0)) none)) (cond (Nat.ble 53 pc) (cond (Nat.ble 56 pc) (cond (Nat.beq pc 56) (some (.aload_n 0, 57, 0, 0, 0, 0)) none) (cond (Nat.beq pc 53) (some (.ifCond .eq 17, 56, 70, 0, 0, 0)) none)) (cond (Nat.beq pc 50) (some (.invokevirtual 202, 53, 147, 0, 1190, 0)) none))) (cond (Nat.ble 46 pc) (cond (Nat.ble 48 pc) (cond (Nat.ble 49 pc) (cond (Nat.beq pc 49) (some (.iload_n 1, 50, 0, 0, 0, 0)) none) (cond (Nat.beq pc 48) (some (.iaload, 49, 0, 0, 0, 0)) none)) (cond (Nat.beq pc 46) (some (.iload 5, 48, 0, 0, 0, 0)) none)) (cond (Nat.ble 43 pc) (cond (Nat.beq pc 43) (some (.getfield 59, 46, 11, 30, 1005, 0)) none) (cond (Nat.beq pc 42) (some (.aload_n 0, 43, 0, 0, 0, 0)) none))))) (cond (Nat.ble 20 pc) (cond (Nat.ble 32 pc) (cond (Nat.ble 37 pc) (cond (Nat.ble 38 pc) (cond (Nat.ble 41 pc) (cond (Nat.beq pc 41) (some (.aload_n 0, 42, 0, 0, 0, 0)) none) (cond (Nat.beq pc 38) (some (.ifCond .eq 32, 41, 70, 0, 0, 0)) none)) (cond (Nat.beq pc 37) (some (.iload_n 3, 38, 0, 0, 0, 0)) none)) (cond (Nat.ble 33 pc) (cond (Nat.ble 34 pc) (cond (Nat.beq pc 34) (some (.if_icmp .eq 22, 37, 56, 0, 0, 0)) none) (cond (Nat.beq pc 33) (some (.iload_n 1, 34, 0, 0, 0, 0)) none)) (cond (Nat.beq pc 32) (some (.iaload, 33, 0, 0, 0, 0)) none))) (cond (Nat.ble 26 pc) (cond (Nat.ble 27 pc) (cond (Nat.ble 30 pc) (cond (Nat.beq pc 30) (some (.iload 5, 32, 0, 0, 0, 0)) none) (cond (Nat.beq pc 27) (some (.getfield 59, 30, 11, 30, 1005, 0)) none)) (cond (Nat.beq pc 26) (some (.aload_n 0, 27, 0, 0, 0, 0)) none)) (cond (Nat.ble 23 pc) (cond (Nat.beq pc 23) (some (.ifCond .eq 47, 26, 70, 0, 0, 0)) none) (cond (Nat.beq pc 20) (some (.invokevirtual 259, 23, 171, 0, 1293, 0)) none)))) (cond (Nat.ble 8 pc) (cond (Nat.ble 15 pc) (cond (Nat.ble 17 pc) (cond (Nat.ble 18 pc) (cond (Nat.beq pc 18) (some (.iload 5, 20, 0, 0, 0, 0)) none) (cond (Nat.beq pc 17) (some (.aload_n 0, 18, 0, 0, 0, 0)) none)) (cond (Nat.beq pc 15) (some (.iload 4, 17, 0, 0, 0, 0)) none)) (cond (Nat.ble 9 pc) (cond (Nat.ble 12 pc) (cond (Nat.beq pc 12) (some (.if_icmp .ge 68, 15, 80, 0, 0, 0)) none) (cond (Nat.beq pc 9) (some (.getfield 224, 12, 11, 23, 998, 0)) none)) (cond (Nat.beq pc 8) (some (.aload_n 0, 9, 0, 0, 0, 0)) none))) (cond (Nat.ble 3 pc) (cond (Nat.ble 4 pc) (cond (Nat.ble 6 pc) (cond (Nat.beq pc 6) (some (.iload 5, 8, 0, 0, 0, 0)) none) (cond (Nat.beq pc 4) (some (.istore 5, 6, 0, 0, 0, 0)) none)) (cond (Nat.beq pc 3) (some (.iconst 0, 4, 0, 0, 0, 0)) none)) (cond (Nat.ble 1 pc) (cond (Nat.beq pc 1) (some (.istore 4, 3, 0, 0, 0, 0)) none) (cond (Nat.beq pc 0) (some (.iconst 0, 1, 0, 0, 0, 0)) none))))))
def rc_187 (pc : Nat) : Option RI := cond (Nat.ble 57 pc) none (cond (Nat.ble 27 pc) (cond (Nat.ble 42 pc) (cond (Nat.ble 48 pc) (cond (Nat.ble 52 pc) (cond (Nat.ble 55 pc) (cond (Nat.ble 56 pc) (cond (Nat.beq pc 56) (some (.ireturn, 57, 0, 0, 0, 0)) none) (cond (Nat.beq pc 55) (some (.iload_n 2, 56, 0, 0, 0, 0)) none)) (cond (Nat.beq pc 52) (some (.goto (-33), 55, 19, 0, 0, 0)) none)) (cond (Nat.ble 49 pc) (cond (Nat.beq pc 49) (some (.iinc 3 1, 52, 0, 0, 0, 0)) none) (cond (Nat.beq pc 48) (some (.istore_n 2, 49, 0, 0, 0, 0)) none))) (cond (Nat.ble 46 pc) (cond (Nat.ble 47 pc) (cond (Nat.beq pc 47) (some (.iadd, 48, 0, 0, 0, 0)) none) (cond (Nat.beq pc 46) (some (.iconst 0, 47, 0, 0, 0, 0)) none)) (cond (Nat.ble 43 pc) (cond (Nat.beq pc 43) (some (.goto 4, 46, 47, 0, 0, 0)) none) (cond (Nat.beq pc 42) (some (.iconst 1, 43, 0, 0, 0, 0)) none)))) (cond (Nat.ble 33 pc) (cond (Nat.ble 35 pc) (cond (Nat.ble 36 pc) (cond (Nat.ble 39 pc) (cond (Nat.beq pc 39) (some (.ifCond .eq 7, 42, 46, 0, 0, 0)) none) (cond (Nat.beq pc 36) (some (.invokevirtual 202, 39, 147, 0, 1190, 0)) none)) (cond (Nat.beq pc 35) (some (.iload_n 1, 36, 0, 0, 0, 0)) none)) (cond (Nat.ble 34 pc) (cond (Nat.beq pc 34) (some (.iload_n 3, 35, 0, 0, 0, 0)) none) (cond (Nat.beq pc 33) (some (.aload_n 0, 34, 0, 0, 0, 0)) none))) (cond (Nat.ble 29 pc) (cond (Nat.ble 30 pc) (cond (Nat.beq pc 30) (some (.if_icmp .eq 16, 33, 46, 0, 0, 0)) none) (cond (Nat.beq pc 29) (some (.iload_n 1, 30, 0, 0, 0, 0)) none)) (cond (Nat.ble 28 pc) (cond (Nat.beq pc 28) (some (.iload_n 3, 29, 0, 0, 0, 0)) none) (cond (Nat.beq pc 27) (some (.iload_n 2, 28, 0, 0, 0, 0)) none))))) (cond (Nat.ble 14 pc) (cond (Nat.ble 18 pc) (cond (Nat.ble 20 pc) (cond (Nat.ble 21 pc) (cond (Nat.ble 24 pc) (cond (Nat.beq pc 24) (some (.if_icmp .ge 31, 27, 55, 0, 0, 0)) none) (cond (Nat.beq pc 21) (some (.getfield 170, 24, 11, 16, 991, 0)) none)) (cond (Nat.beq pc 20) (some (.aload_n 0, 21, 0, 0, 0, 0)) none)) (cond (Nat.ble 19 pc) (cond (Nat.beq pc 19) (some (.iload_n 3, 20, 0, 0, 0, 0)) none) (cond (Nat.beq pc 18) (some (.istore_n 3, 19, 0, 0, 0, 0)) none))) (cond (Nat.ble 16 pc) (cond (Nat.ble 17 pc) (cond (Nat.beq pc 17) (some (.iconst 0, 18, 0, 0, 0, 0)) none) (cond (Nat.beq pc 16) (some (.istore_n 2, 17, 0, 0, 0, 0)) none)) (cond (Nat.ble 15 pc) (cond (Nat.beq pc 15) (some (.iconst 0, 16, 0, 0, 0, 0)) none) (cond (Nat.beq pc 14) (some (.ireturn, 15, 0, 0, 0, 0)) none)))) (cond (Nat.ble 6 pc) (cond (Nat.ble 10 pc) (cond (Nat.ble 13 pc) (cond (Nat.beq pc 13) (some (.iconst (-1), 14, 0, 0, 0, 0)) none) (cond (Nat.beq pc 10) (some (.ifCond .ne 5, 13, 15, 0, 0, 0)) none)) (cond (Nat.ble 7 pc) (cond (Nat.beq pc 7) (some (.invokevirtual 193, 10, 143, 0, 1174, 0)) none) (cond (Nat.beq pc 6) (some (.iload_n 1, 7, 0, 0, 0, 0)) none))) (cond (Nat.ble 2 pc) (cond (Nat.ble 5 pc) (cond (Nat.beq pc 5) (some (.aload_n 0, 6, 0, 0, 0, 0)) none) (cond (Nat.beq pc 2) (some (.putfield 95, 5, 11, 0, 975, 0)) none)) (cond (Nat.ble 1 pc) (cond (Nat.beq pc 1) (some (.iconst 0, 2, 0, 0, 0, 0)) none) (cond (Nat.beq pc 0) (some (.aload_n 0, 1, 0, 0, 0, 0)) none))))))
def rc_188 (pc : Nat) : Option RI := cond (Nat.ble 39 pc) none (cond (Nat.ble 18 pc) (cond (Nat.ble 28 pc) (cond (Nat.ble 33 pc) (cond (Nat.ble 37 pc) (cond (Nat.ble 38 pc) (cond (Nat.beq pc 38) (some (.ireturn, 39, 0, 0, 0, 0)) none) (cond (Nat.beq pc 37) (some (.iload_n 2, 38, 0, 0, 0, 0)) none)) (cond (Nat.ble 34 pc) (cond (Nat.beq pc 34) (some (.goto (-17), 37, 17, 0, 0, 0)) none) (cond (Nat.beq pc 33) (some (.istore_n 2, 34, 0, 0, 0, 0)) none))) (cond (Nat.ble 31 pc) (cond (Nat.ble 32 pc) (cond (Nat.beq pc 32) (some (.iaload, 33, 0, 0, 0, 0)) none) (cond (Nat.beq pc 31) (some (.iload_n 2, 32, 0, 0, 0, 0)) none)) (cond (Nat.beq pc 28) (some (.getfield 38, 31, 11, 21, 996, 0)) none))) (cond (Nat.ble 23 pc) (cond (Nat.ble 24 pc) (cond (Nat.ble 27 pc) (cond (Nat.beq pc 27) (some (.aload_n 0, 28, 0, 0, 0, 0)) none) (cond (Nat.beq pc 24) (some (.if_icmp .eq 13, 27, 37, 0, 0, 0)) none)) (cond (Nat.beq pc 23) (some (.iconst (-1), 24, 0, 0, 0, 0)) none)) (cond (Nat.ble 21 pc) (cond (Nat.ble 22 pc) (cond (Nat.beq pc 22) (some (.iaload, 23, 0, 0, 0, 0)) none) (cond (Nat.beq pc 21) (some (.iload_n 2, 22, 0, 0, 0, 0)) none)) (cond (Nat.beq pc 18) (some (.getfield 38, 21, 11, 21, 996, 0)) none)))) (cond (Nat.ble 10 pc) (cond (Nat.ble 15 pc) (cond (Nat.ble 16 pc) (cond (Nat.ble 17 pc) (cond (Nat.beq pc 17) (some (.aload_n 0, 18, 0, 0, 0, 0)) none) (cond (Nat.beq pc 16) (some (.istore_n 2, 17, 0, 0, 0, 0)) none)) (cond (Nat.beq pc 15) (some (.iload_n 1, 16, 0, 0, 0, 0)) none)) (cond (Nat.ble 13 pc) (cond (Nat.ble 14 pc) (cond (Nat.beq pc 14) (some (.ireturn, 15, 0, 0, 0, 0)) none) (cond (Nat.beq pc 13) (some (.iconst (-1), 14, 0, 0, 0, 0)) none)) (cond (Nat.beq pc 10) (some (.ifCond .ne 5, 13, 15, 0, 0, 0)) none))) (cond (Nat.ble 5 pc) (cond (Nat.ble 6 pc) (cond (Nat.ble 7 pc) (cond (Nat.beq pc 7) (some (.invokevirtual 193, 10, 143, 0, 1174, 0)) none) (cond (Nat.beq pc 6) (some (.iload_n 1, 7, 0, 0, 0, 0)) none)) (cond (Nat.beq pc 5) (some (.aload_n 0, 6, 0, 0, 0, 0)) none)) (cond (Nat.ble 1 pc) (cond (Nat.ble 2 pc) (cond (Nat.beq pc 2) (some (.putfield 95, 5, 11, 0, 975, 0)) none) (cond (Nat.beq pc 1) (some (.iconst 0, 2, 0, 0, 0, 0)) none)) (cond (Nat.beq pc 0) (some (.aload_n 0, 1, 0, 0, 0, 0)) none)))))
def rc_189 (pc : Nat) : Option RI := cond (Nat.ble 62 pc) none (cond (Nat.ble 30 pc) (cond (Nat.ble 44 pc) (cond (Nat.ble 53 pc) (cond (Nat.ble 57 pc) (cond (Nat.ble 60 pc) (cond (Nat.ble 61 pc) (cond (Nat.beq pc 61) (some (.ireturn, 62, 0, 0, 0, 0)) none) (cond (Nat.beq pc 60) (some (.iload_n 2, 61, 0, 0, 0, 0)) none)) (cond (Nat.beq pc 57) (some (.goto (-36), 60, 21, 0, 0, 0)) none)) (cond (Nat.ble 54 pc) (cond (Nat.beq pc 54) (some (.iinc 3 1, 57, 0, 0, 0, 0)) none) (cond (Nat.beq pc 53) (some (.istore_n 2, 54, 0, 0, 0, 0)) none))) (cond (Nat.ble 46 pc) (cond (Nat.ble 49 pc) (cond (Nat.ble 52 pc) (cond (Nat.beq pc 52) (some (.iload_n 3, 53, 0, 0, 0, 0)) none) (cond (Nat.beq pc 49) (some (.if_icmp .le 5, 52, 54, 0, 0, 0)) none)) (cond (Nat.beq pc 46) (some (.invokevirtual 304, 49, 186, 0, 1352, 0)) none)) (cond (Nat.ble 45 pc) (cond (Nat.beq pc 45) (some (.iconst 1, 46, 0, 0, 0, 0)) none) (cond (Nat.beq pc 44) (some (.iload_n 1, 45, 0, 0, 0, 0)) none)))) (cond (Nat.ble 37 pc) (cond (Nat.ble 39 pc) (cond (Nat.ble 42 pc) (cond (Nat.ble 43 pc) (cond (Nat.beq pc 43) (some (.iload_n 2, 44, 0, 0, 0, 0)) none) (cond (Nat.beq pc 42) (some (.aload_n 0, 43, 0, 0, 0, 0)) none)) (cond (Nat.beq pc 39) (some (.invokevirtual 304, 42, 186, 0, 1352, 0)) none)) (cond (Nat.ble 38 pc) (cond (Nat.beq pc 38) (some (.iconst 1, 39, 0, 0, 0, 0)) none) (cond (Nat.beq pc 37) (some (.iload_n 1, 38, 0, 0, 0, 0)) none))) (cond (Nat.ble 35 pc) (cond (Nat.ble 36 pc) (cond (Nat.beq pc 36) (some (.iload_n 3, 37, 0, 0, 0, 0)) none) (cond (Nat.beq pc 35) (some (.aload_n 0, 36, 0, 0, 0, 0)) none)) (cond (Nat.ble 32 pc) (cond (Nat.beq pc 32) (some (.if_icmp .eq 20, 35, 52, 0, 0, 0)) none) (cond (Nat.beq pc 30) (some (.bipush (-2), 32, 0, 0, 0, 0)) none))))) (cond (Nat.ble 15 pc) (cond (Nat.ble 21 pc) (cond (Nat.ble 23 pc) (cond (Nat.ble 26 pc) (cond (Nat.ble 29 pc) (cond (Nat.beq pc 29) (some (.iload_n 2, 30, 0, 0, 0, 0)) none) (cond (Nat.beq pc 26) (some (.if_icmp .ge 34, 29, 60, 0, 0, 0)) none)) (cond (Nat.beq pc 23) (some (.getfield 170, 26, 11, 16, 991, 0)) none)) (cond (Nat.ble 22 pc) (cond (Nat.beq pc 22) (some (.aload_n 0, 23, 0, 0, 0, 0)) none) (cond (Nat.beq pc 21) (some (.iload_n 3, 22, 0, 0, 0, 0)) none))) (cond (Nat.ble 18 pc) (cond (Nat.ble 19 pc) (cond (Nat.ble 20 pc) (cond (Nat.beq pc 20) (some (.istore_n 3, 21, 0, 0, 0, 0)) none) (cond (Nat.beq pc 19) (some (.iconst 0, 20, 0, 0, 0, 0)) none)) (cond (Nat.beq pc 18) (some (.istore_n 2, 19, 0, 0, 0, 0)) none)) (cond (Nat.ble 16 pc) (cond (Nat.beq pc 16) (some (.bipush (-2), 18, 0, 0, 0, 0)) none) (cond (Nat.beq pc 15) (some (.ireturn, 16, 0, 0, 0, 0)) none)))) (cond (Nat.ble 6 pc) (cond (Nat.ble 8 pc) (cond (Nat.ble 11 pc) (cond (Nat.ble 14 pc) (cond (Nat.beq pc 14) (some (.iconst (-1), 15, 0, 0, 0, 0)) none) (cond (Nat.beq pc 11) (some (.ifCond .ne 5, 14, 16, 0, 0, 0)) none)) (cond (Nat.beq pc 8) (some (.invokestatic 160, 11, 137, 0, 1151, 0)) none)) (cond (Nat.ble 7 pc) (cond (Nat.beq pc 7) (some (.iconst 4, 8, 0, 0, 0, 0)) none) (cond (Nat.beq pc 6) (some (.iconst 0, 7, 0, 0, 0, 0)) none))) (cond (Nat.ble 2 pc) (cond (Nat.ble 5 pc) (cond (Nat.beq pc 5) (some (.iload_n 1, 6, 0, 0, 0, 0)) none) (cond (Nat.beq pc 2) (some (.putfield 95, 5, 11, 0, 975, 0)) none)) (cond (Nat.ble 1 pc) (cond (Nat.beq pc 1) (some (.iconst 0, 2, 0, 0, 0, 0)) none) (cond (Nat.beq pc 0) (some (.aload_n 0, 1, 0, 0, 0, 0)) none))))))
def rc_190 (pc : Nat) : Option RI := cond (Nat.ble 89 pc) none (cond (Nat.ble 45 pc) (cond (Nat.ble 69 pc) (cond (Nat.ble 78 pc) (cond (Nat.ble 81 pc) (cond (Nat.ble 87 pc) (cond (Nat.ble 88 pc) (cond (Nat.beq pc 88) (some (.ireturn, 89, 0, 0, 0, 0)) none) (cond (Nat.beq pc 87) (some (.iload_n 3, 88, 0, 0, 0, 0)) none)) (cond (Nat.ble 84 pc) (cond (Nat.beq pc 84) (some (.goto (-55), 87, 29, 0, 0, 0)) none) (cond (Nat.beq pc 81) (some (.iinc 4 1, 84, 0, 0, 0, 0)) none))) (cond (Nat.ble 79 pc) (cond (Nat.ble 80 pc) (cond (Nat.beq pc 80) (some (.istore_n 3, 81, 0, 0, 0, 0)) none) (cond (Nat.beq pc 79) (some (.iadd, 80, 0, 0, 0, 0)) none)) (cond (Nat.beq pc 78) (some (.iconst 0, 79, 0, 0, 0, 0)) none))) (cond (Nat.ble 73 pc) (cond (Nat.ble 74 pc) (cond (Nat.ble 75 pc) (cond (Nat.beq pc 75) (some (.goto 4, 78, 79, 0, 0, 0)) none) (cond (Nat.beq pc 74) (some (.iaload, 75, 0, 0, 0, 0)) none)) (cond (Nat.beq pc 73) (some (.iadd, 74, 0, 0, 0, 0)) none)) (cond (Nat.ble 71 pc) (cond (Nat.ble 72 pc) (cond (Nat.beq pc 72) (some (.iload_n 2, 73, 0, 0, 0, 0)) none) (cond (Nat.beq pc 71) (some (.imul, 72, 0, 0, 0, 0)) none)) (cond (Nat.beq pc 69) (some (.iload 4, 71, 0, 0, 0, 0)) none)))) (cond (Nat.ble 58 pc) (cond (Nat.ble 61 pc) (cond (Nat.ble 65 pc) (cond (Nat.ble 68 pc) (cond (Nat.beq pc 68) (some (.iconst 5, 69, 0, 0, 0, 0)) none) (cond (Nat.beq pc 65) (some (.getfield 53, 68, 11, 28, 1003, 0)) none)) (cond (Nat.ble 64 pc) (cond (Nat.beq pc 64) (some (.aload_n 0, 65, 0, 0, 0, 0)) none) (cond (Nat.beq pc 61) (some (.if_icmp .ne 17, 64, 78, 0, 0, 0)) none))) (cond (Nat.ble 59 pc) (cond (Nat.ble 60 pc) (cond (Nat.beq pc 60) (some (.iload_n 1, 61, 0, 0, 0, 0)) none) (cond (Nat.beq pc 59) (some (.iaload, 60, 0, 0, 0, 0)) none)) (cond (Nat.beq pc 58) (some (.iaload, 59, 0, 0, 0, 0)) none))) (cond (Nat.ble 52 pc) (cond (Nat.ble 53 pc) (cond (Nat.ble 56 pc) (cond (Nat.beq pc 56) (some (.iload 4, 58, 0, 0, 0, 0)) none) (cond (Nat.beq pc 53) (some (.getfield 56, 56, 11, 29, 1004, 0)) none)) (cond (Nat.beq pc 52) (some (.aload_n 0, 53, 0, 0, 0, 0)) none)) (cond (Nat.ble 48 pc) (cond (Nat.ble 49 pc) (cond (Nat.beq pc 49) (some (.getfield 31, 52, 11, 19, 994, 0)) none) (cond (Nat.beq pc 48) (some (.aload_n 0, 49, 0, 0, 0, 0)) none)) (cond (Nat.beq pc 45) (some (.ifCond .eq 33, 48, 78, 0, 0, 0)) none))))) (cond (Nat.ble 23 pc) (cond (Nat.ble 31 pc) (cond (Nat.ble 38 pc) (cond (Nat.ble 40 pc) (cond (Nat.ble 42 pc) (cond (Nat.beq pc 42) (some (.invokevirtual 259, 45, 171, 0, 1293, 0)) none) (cond (Nat.beq pc 40) (some (.iload 4, 42, 0, 0, 0, 0)) none)) (cond (Nat.ble 39 pc) (cond (Nat.beq pc 39) (some (.aload_n 0, 40, 0, 0, 0, 0)) none) (cond (Nat.beq pc 38) (some (.iload_n 3, 39, 0, 0, 0, 0)) none))) (cond (Nat.ble 32 pc) (cond (Nat.ble 35 pc) (cond (Nat.beq pc 35) (some (.if_icmp .ge 52, 38, 87, 0, 0, 0)) none) (cond (Nat.beq pc 32) (some (.getfield 224, 35, 11, 23, 998, 0)) none)) (cond (Nat.beq pc 31) (some (.aload_n 0, 32, 0, 0, 0, 0)) none))) (cond (Nat.ble 26 pc) (cond (Nat.ble 27 pc) (cond (Nat.ble 29 pc) (cond (Nat.beq pc 29) (some (.iload 4, 31, 0, 0, 0, 0)) none) (cond (Nat.beq pc 27) (some (.istore 4, 29, 0, 0, 0, 0)) none)) (cond (Nat.beq pc 26) (some (.iconst 0, 27, 0, 0, 0, 0)) none)) (cond (Nat.ble 24 pc) (cond (Nat.ble 25 pc) (cond (Nat.beq pc 25) (some (.istore_n 3, 26, 0, 0, 0, 0)) none) (cond (Nat.beq pc 24) (some (.iconst 0, 25, 0, 0, 0, 0)) none)) (cond (Nat.beq pc 23) (some (.ireturn, 24, 0, 0, 0, 0)) none)))) (cond (Nat.ble 10 pc) (cond (Nat.ble 15 pc) (cond (Nat.ble 19 pc) (cond (Nat.ble 22 pc) (cond (Nat.beq pc 22) (some (.iconst (-1), 23, 0, 0, 0, 0)) none) (cond (Nat.beq pc 19) (some (.ifCond .ne 5, 22, 24, 0, 0, 0)) none)) (cond (Nat.ble 16 pc) (cond (Nat.beq pc 16) (some (.invokestatic 160, 19, 137, 0, 1151, 0)) none) (cond (Nat.beq pc 15) (some (.iconst 4, 16, 0, 0, 0, 0)) none))) (cond (Nat.ble 13 pc) (cond (Nat.ble 14 pc) (cond (Nat.beq pc 14) (some (.iconst 0, 15, 0, 0, 0, 0)) none) (cond (Nat.beq pc 13) (some (.iload_n 2, 14, 0, 0, 0, 0)) none)) (cond (Nat.beq pc 10) (some (.ifCond .eq 12, 13, 22, 0, 0, 0)) none))) (cond (Nat.ble 5 pc) (cond (Nat.ble 6 pc) (cond (Nat.ble 7 pc) (cond (Nat.beq pc 7) (some (.invokevirtual 179, 10, 136, 0, 1147, 0)) none) (cond (Nat.beq pc 6) (some (.iload_n 1, 7, 0, 0, 0, 0)) none)) (cond (Nat.beq pc 5) (some (.aload_n 0, 6, 0, 0, 0, 0)) none)) (cond (Nat.ble 1 pc) (cond (Nat.ble 2 pc) (cond (Nat.beq pc 2) (some (.putfield 95, 5, 11, 0, 975, 0)) none) (cond (Nat.beq pc 1) (some (.iconst 0, 2, 0, 0, 0, 0)) none)) (cond (Nat.beq pc 0) (some (.aload_n 0, 1, 0, 0, 0, 0)) none))))))
def rc_191 (pc : Nat) : Option RI := cond (Nat.ble 81 pc) none (cond (Nat.ble 43 pc) (cond (Nat.ble 61 pc) (cond (Nat.ble 70 pc) (cond (Nat.ble 76 pc) (cond (Nat.ble 77 pc) (cond (Nat.ble 80 pc) (cond (Nat.beq pc 80) (some (.ireturn, 81, 0, 0, 0, 0)) none) (cond (Nat.beq pc 77) (some (.invokevirtual 206, 80, 148, 0, 1194, 0)) none)) (cond (Nat.beq pc 76) (some (.aload_n 0, 77, 0, 0, 0, 0)) none)) (cond (Nat.ble 71 pc) (cond (Nat.ble 73 pc) (cond (Nat.beq pc 73) (some (.putfield 92, 76, 11, 49, 1024, 0)) none) (cond (Nat.beq pc 71) (some (.iload 4, 73, 0, 0, 0, 0)) none)) (cond (Nat.beq pc 70) (some (.aload_n 0, 71, 0, 0, 0, 0)) none))) (cond (Nat.ble 65 pc) (cond (Nat.ble 66 pc) (cond (Nat.ble 67 pc) (cond (Nat.beq pc 67) (some (.putfield 314, 70, 11, 48, 1023, 0)) none) (cond (Nat.beq pc 66) (some (.iload_n 3, 67, 0, 0, 0, 0)) none)) (cond (Nat.beq pc 65) (some (.aload_n 0, 66, 0, 0, 0, 0)) none)) (cond (Nat.ble 62 pc) (cond (Nat.beq pc 62) (some (.putfield 311, 65, 11, 47, 1022, 0)) none) (cond (Nat.beq pc 61) (some (.iload_n 2, 62, 0, 0, 0, 0)) none)))) (cond (Nat.ble 54 pc) (cond (Nat.ble 56 pc) (cond (Nat.ble 57 pc) (cond (Nat.ble 60 pc) (cond (Nat.beq pc 60) (some (.aload_n 0, 61, 0, 0, 0, 0)) none) (cond (Nat.beq pc 57) (some (.putfield 308, 60, 11, 46, 1021, 0)) none)) (cond (Nat.beq pc 56) (some (.iload_n 1, 57, 0, 0, 0, 0)) none)) (cond (Nat.ble 55 pc) (cond (Nat.beq pc 55) (some (.aload_n 0, 56, 0, 0, 0, 0)) none) (cond (Nat.beq pc 54) (some (.ireturn, 55, 0, 0, 0, 0)) none))) (cond (Nat.ble 49 pc) (cond (Nat.ble 50 pc) (cond (Nat.ble 51 pc) (cond (Nat.beq pc 51) (some (.invokevirtual 199, 54, 146, 0, 1186, 0)) none) (cond (Nat.beq pc 50) (some (.iconst 2, 51, 0, 0, 0, 0)) none)) (cond (Nat.beq pc 49) (some (.aload_n 0, 50, 0, 0, 0, 0)) none)) (cond (Nat.ble 46 pc) (cond (Nat.beq pc 46) (some (.ifCond .ne 9, 49, 55, 0, 0, 0)) none) (cond (Nat.beq pc 43) (some (.invokestatic 160, 46, 137, 0, 1151, 0)) none))))) (cond (Nat.ble 18 pc) (cond (Nat.ble 29 pc) (cond (Nat.ble 38 pc) (cond (Nat.ble 40 pc) (cond (Nat.ble 41 pc) (cond (Nat.beq pc 41) (some (.bipush 100, 43, 0, 0, 0, 0)) none) (cond (Nat.beq pc 40) (some (.iconst 0, 41, 0, 0, 0, 0)) none)) (cond (Nat.beq pc 38) (some (.iload 4, 40, 0, 0, 0, 0)) none)) (cond (Nat.ble 32 pc) (cond (Nat.ble 35 pc) (cond (Nat.beq pc 35) (some (.ifCond .eq 14, 38, 49, 0, 0, 0)) none) (cond (Nat.beq pc 32) (some (.invokestatic 160, 35, 137, 0, 1151, 0)) none)) (cond (Nat.beq pc 29) (some (.sipush 1000, 32, 0, 0, 0, 0)) none))) (cond (Nat.ble 24 pc) (cond (Nat.ble 27 pc) (cond (Nat.ble 28 pc) (cond (Nat.beq pc 28) (some (.iconst 0, 29, 0, 0, 0, 0)) none) (cond (Nat.beq pc 27) (some (.iload_n 3, 28, 0, 0, 0, 0)) none)) (cond (Nat.beq pc 24) (some (.ifCond .eq 25, 27, 49, 0, 0, 0)) none)) (cond (Nat.ble 21 pc) (cond (Nat.beq pc 21) (some (.invokestatic 160, 24, 137, 0, 1151, 0)) none) (cond (Nat.beq pc 18) (some (.sipush 1000, 21, 0, 0, 0, 0)) none)))) (cond (Nat.ble 7 pc) (cond (Nat.ble 13 pc) (cond (Nat.ble 16 pc) (cond (Nat.ble 17 pc) (cond (Nat.beq pc 17) (some (.iconst 0, 18, 0, 0, 0, 0)) none) (cond (Nat.beq pc 16) (some (.iload_n 2, 17, 0, 0, 0, 0)) none)) (cond (Nat.beq pc 13) (some (.ifCond .eq 36, 16, 49, 0, 0, 0)) none)) (cond (Nat.ble 10 pc) (cond (Nat.beq pc 10) (some (.invokestatic 160, 13, 137, 0, 1151, 0)) none) (cond (Nat.beq pc 7) (some (.sipush 1000, 10, 0, 0, 0, 0)) none))) (cond (Nat.ble 2 pc) (cond (Nat.ble 5 pc) (cond (Nat.ble 6 pc) (cond (Nat.beq pc 6) (some (.iconst 0, 7, 0, 0, 0, 0)) none) (cond (Nat.beq pc 5) (some (.iload_n 1, 6, 0, 0, 0, 0)) none)) (cond (Nat.beq pc 2) (some (.putfield 95, 5, 11, 0, 975, 0)) none)) (cond (Nat.ble 1 pc) (cond (Nat.beq pc 1) (some (.iconst 0, 2, 0, 0, 0, 0)) none) (cond (Nat.beq pc 0) (some (.aload_n 0, 1, 0, 0, 0, 0)) none))))))
def rc_192 (pc : Nat) : Option RI := cond (Nat.ble 29 pc) none (cond (Nat.ble 12 pc) (cond (Nat.ble 20 pc) (cond (Nat.ble 24 pc) (cond (Nat.ble 27 pc) (cond (Nat.ble 28 pc) (cond (Nat.beq pc 28) (some (.ireturn, 29, 0, 0, 0, 0)) none) (cond (Nat.beq pc 27) (some (.iconst (-1), 28, 0, 0, 0, 0)) none)) (cond (Nat.beq pc 24) (some (.goto 4, 27, 28, 0, 0, 0)) none)) (cond (Nat.ble 21 pc) (cond (Nat.beq pc 21) (some (.invokevirtual 326, 24, 193, 0, 1380, 0)) none) (cond (Nat.beq pc 20) (some (.iconst 0, 21, 0, 0, 0, 0)) none))) (cond (Nat.ble 18 pc) (cond (Nat.ble 19 pc) (cond (Nat.beq pc 19) (some (.iload_n 1, 20, 0, 0, 0, 0)) none) (cond (Nat.beq pc 18) (some (.aload_n 0, 19, 0, 0, 0, 0)) none)) (cond (Nat.ble 15 pc) (cond (Nat.beq pc 15) (some (.ifCond .eq 12, 18, 27, 0, 0, 0)) none) (cond (Nat.beq pc 12) (some (.invokevirtual 193, 15, 143, 0, 1174, 0)) none)))) (cond (Nat.ble 6 pc) (cond (Nat.ble 10 pc) (cond (Nat.ble 11 pc) (cond (Nat.beq pc 11) (some (.iload_n 1, 12, 0, 0, 0, 0)) none) (cond (Nat.beq pc 10) (some (.aload_n 0, 11, 0, 0, 0, 0)) none)) (cond (Nat.ble 7 pc) (cond (Nat.beq pc 7) (some (.if_icmp .eq 11, 10, 18, 0, 0, 0)) none) (cond (Nat.beq pc 6) (some (.iconst (-1), 7, 0, 0, 0, 0)) none))) (cond (Nat.ble 2 pc) (cond (Nat.ble 5 pc) (cond (Nat.beq pc 5) (some (.iload_n 1, 6, 0, 0, 0, 0)) none) (cond (Nat.beq pc 2) (some (.putfield 95, 5, 11, 0, 975, 0)) none)) (cond (Nat.ble 1 pc) (cond (Nat.beq pc 1) (some (.iconst 0, 2, 0, 0, 0, 0)) none) (cond (Nat.beq pc 0) (some (.aload_n 0, 1, 0, 0, 0, 0)) none)))))
def rc_193 (pc : Nat) : Option RI := cond (Nat.ble 70 pc) none (cond (Nat.ble 35 pc) (cond (Nat.ble 50 pc) (cond (Nat.ble 61 pc) (cond (Nat.ble 65 pc) (cond (Nat.ble 68 pc) (cond (Nat.ble 69 pc) (cond (Nat.beq pc 69) (some (.ireturn, 70, 0, 0, 0, 0)) none) (cond (Nat.beq pc 68) (some (.iload_n 3, 69, 0, 0, 0, 0)) none)) (cond (Nat.beq pc 65) (some (.goto (-60), 68, 5, 0, 0, 0)) none)) (cond (Nat.ble 62 pc) (cond (Nat.beq pc 62) (some (.iinc 4 1, 65, 0, 0, 0, 0)) none) (cond (Nat.beq pc 61) (some (.istore_n 3, 62, 0, 0, 0, 0)) none))) (cond (Nat.ble 56 pc) (cond (Nat.ble 59 pc) (cond (Nat.ble 60 pc) (cond (Nat.beq pc 60) (some (.iadd, 61, 0, 0, 0, 0)) none) (cond (Nat.beq pc 59) (some (.iconst 0, 60, 0, 0, 0, 0)) none)) (cond (Nat.beq pc 56) (some (.goto 4, 59, 60, 0, 0, 0)) none)) (cond (Nat.ble 53 pc) (cond (Nat.beq pc 53) (some (.invokestatic 323, 56, 4, 0, 1392, 0)) none) (cond (Nat.beq pc 50) (some (.invokevirtual 320, 53, 195, 0, 1388, 0)) none)))) (cond (Nat.ble 41 pc) (cond (Nat.ble 44 pc) (cond (Nat.ble 47 pc) (cond (Nat.ble 48 pc) (cond (Nat.beq pc 48) (some (.iload 4, 50, 0, 0, 0, 0)) none) (cond (Nat.beq pc 47) (some (.aload_n 0, 48, 0, 0, 0, 0)) none)) (cond (Nat.beq pc 44) (some (.invokevirtual 317, 47, 194, 0, 1384, 0)) none)) (cond (Nat.ble 43 pc) (cond (Nat.beq pc 43) (some (.iload_n 2, 44, 0, 0, 0, 0)) none) (cond (Nat.beq pc 41) (some (.iload 4, 43, 0, 0, 0, 0)) none))) (cond (Nat.ble 37 pc) (cond (Nat.ble 40 pc) (cond (Nat.beq pc 40) (some (.aload_n 0, 41, 0, 0, 0, 0)) none) (cond (Nat.beq pc 37) (some (.if_icmp .ne 22, 40, 59, 0, 0, 0)) none)) (cond (Nat.ble 36 pc) (cond (Nat.beq pc 36) (some (.iload_n 1, 37, 0, 0, 0, 0)) none) (cond (Nat.beq pc 35) (some (.iaload, 36, 0, 0, 0, 0)) none))))) (cond (Nat.ble 15 pc) (cond (Nat.ble 25 pc) (cond (Nat.ble 29 pc) (cond (Nat.ble 30 pc) (cond (Nat.ble 33 pc) (cond (Nat.beq pc 33) (some (.iload 4, 35, 0, 0, 0, 0)) none) (cond (Nat.beq pc 30) (some (.getfield 59, 33, 11, 30, 1005, 0)) none)) (cond (Nat.beq pc 29) (some (.aload_n 0, 30, 0, 0, 0, 0)) none)) (cond (Nat.ble 26 pc) (cond (Nat.beq pc 26) (some (.if_icmp .eq 14, 29, 40, 0, 0, 0)) none) (cond (Nat.beq pc 25) (some (.iconst (-1), 26, 0, 0, 0, 0)) none))) (cond (Nat.ble 18 pc) (cond (Nat.ble 21 pc) (cond (Nat.ble 24 pc) (cond (Nat.beq pc 24) (some (.iload_n 1, 25, 0, 0, 0, 0)) none) (cond (Nat.beq pc 21) (some (.ifCond .eq 38, 24, 59, 0, 0, 0)) none)) (cond (Nat.beq pc 18) (some (.invokevirtual 259, 21, 171, 0, 1293, 0)) none)) (cond (Nat.ble 16 pc) (cond (Nat.beq pc 16) (some (.iload 4, 18, 0, 0, 0, 0)) none) (cond (Nat.beq pc 15) (some (.aload_n 0, 16, 0, 0, 0, 0)) none)))) (cond (Nat.ble 5 pc) (cond (Nat.ble 8 pc) (cond (Nat.ble 11 pc) (cond (Nat.ble 14 pc) (cond (Nat.beq pc 14) (some (.iload_n 3, 15, 0, 0, 0, 0)) none) (cond (Nat.beq pc 11) (some (.if_icmp .ge 57, 14, 68, 0, 0, 0)) none)) (cond (Nat.beq pc 8) (some (.getfield 224, 11, 11, 23, 998, 0)) none)) (cond (Nat.ble 7 pc) (cond (Nat.beq pc 7) (some (.aload_n 0, 8, 0, 0, 0, 0)) none) (cond (Nat.beq pc 5) (some (.iload 4, 7, 0, 0, 0, 0)) none))) (cond (Nat.ble 2 pc) (cond (Nat.ble 3 pc) (cond (Nat.beq pc 3) (some (.istore 4, 5, 0, 0, 0, 0)) none) (cond (Nat.beq pc 2) (some (.iconst 0, 3, 0, 0, 0, 0)) none)) (cond (Nat.ble 1 pc) (cond (Nat.beq pc 1) (some (.istore_n 3, 2, 0, 0, 0, 0)) none) (cond (Nat.beq pc 0) (some (.iconst 0, 1, 0, 0, 0, 0)) none))))))
def rc_194 (pc : Nat) : Option RI := cond (Nat.ble 48 pc) none (cond (Nat.ble 26 pc) (cond (Nat.ble 39 pc) (cond (Nat.ble 43 pc) (cond (Nat.ble 45 pc) (cond (Nat.ble 46 pc) (cond (Nat.ble 47 pc) (cond (Nat.beq pc 47) (some (.ireturn, 48, 0, 0, 0, 0)) none) (cond (Nat.beq pc 46) (some (.iadd, 47, 0, 0, 0, 0)) none)) (cond (Nat.beq pc 45) (some (.imul, 46, 0, 0, 0, 0)) none)) (cond (Nat.ble 44 pc) (cond (Nat.beq pc 44) (some (.iaload, 45, 0, 0, 0, 0)) none) (cond (Nat.beq pc 43) (some (.iadd, 44, 0, 0, 0, 0)) none))) (cond (Nat.ble 41 pc) (cond (Nat.ble 42 pc) (cond (Nat.beq pc 42) (some (.iconst 2, 43, 0, 0, 0, 0)) none) (cond (Nat.beq pc 41) (some (.imul, 42, 0, 0, 0, 0)) none)) (cond (Nat.ble 40 pc) (cond (Nat.beq pc 40) (some (.iload_n 1, 41, 0, 0, 0, 0)) none) (cond (Nat.beq pc 39) (some (.iconst 5, 40, 0, 0, 0, 0)) none)))) (cond (Nat.ble 30 pc) (cond (Nat.ble 32 pc) (cond (Nat.ble 35 pc) (cond (Nat.ble 36 pc) (cond (Nat.beq pc 36) (some (.getfield 53, 39, 11, 28, 1003, 0)) none) (cond (Nat.beq pc 35) (some (.aload_n 0, 36, 0, 0, 0, 0)) none)) (cond (Nat.beq pc 32) (some (.getfield 314, 35, 11, 48, 1023, 0)) none)) (cond (Nat.ble 31 pc) (cond (Nat.beq pc 31) (some (.aload_n 0, 32, 0, 0, 0, 0)) none) (cond (Nat.beq pc 30) (some (.iadd, 31, 0, 0, 0, 0)) none))) (cond (Nat.ble 28 pc) (cond (Nat.ble 29 pc) (cond (Nat.beq pc 29) (some (.imul, 30, 0, 0, 0, 0)) none) (cond (Nat.beq pc 28) (some (.iaload, 29, 0, 0, 0, 0)) none)) (cond (Nat.ble 27 pc) (cond (Nat.beq pc 27) (some (.iadd, 28, 0, 0, 0, 0)) none) (cond (Nat.beq pc 26) (some (.iconst 1, 27, 0, 0, 0, 0)) none))))) (cond (Nat.ble 13 pc) (cond (Nat.ble 19 pc) (cond (Nat.ble 23 pc) (cond (Nat.ble 24 pc) (cond (Nat.ble 25 pc) (cond (Nat.beq pc 25) (some (.imul, 26, 0, 0, 0, 0)) none) (cond (Nat.beq pc 24) (some (.iload_n 1, 25, 0, 0, 0, 0)) none)) (cond (Nat.beq pc 23) (some (.iconst 5, 24, 0, 0, 0, 0)) none)) (cond (Nat.ble 20 pc) (cond (Nat.beq pc 20) (some (.getfield 53, 23, 11, 28, 1003, 0)) none) (cond (Nat.beq pc 19) (some (.aload_n 0, 20, 0, 0, 0, 0)) none))) (cond (Nat.ble 15 pc) (cond (Nat.ble 16 pc) (cond (Nat.beq pc 16) (some (.getfield 311, 19, 11, 47, 1022, 0)) none) (cond (Nat.beq pc 15) (some (.aload_n 0, 16, 0, 0, 0, 0)) none)) (cond (Nat.ble 14 pc) (cond (Nat.beq pc 14) (some (.imul, 15, 0, 0, 0, 0)) none) (cond (Nat.beq pc 13) (some (.iaload, 14, 0, 0, 0, 0)) none)))) (cond (Nat.ble 6 pc) (cond (Nat.ble 10 pc) (cond (Nat.ble 11 pc) (cond (Nat.ble 12 pc) (cond (Nat.beq pc 12) (some (.imul, 13, 0, 0, 0, 0)) none) (cond (Nat.beq pc 11) (some (.iload_n 1, 12, 0, 0, 0, 0)) none)) (cond (Nat.beq pc 10) (some (.iconst 5, 11, 0, 0, 0, 0)) none)) (cond (Nat.ble 7 pc) (cond (Nat.beq pc 7) (some (.getfield 53, 10, 11, 28, 1003, 0)) none) (cond (Nat.beq pc 6) (some (.aload_n 0, 7, 0, 0, 0, 0)) none))) (cond (Nat.ble 4 pc) (cond (Nat.ble 5 pc) (cond (Nat.beq pc 5) (some (.iadd, 6, 0, 0, 0, 0)) none) (cond (Nat.beq pc 4) (some (.iload_n 2, 5, 0, 0, 0, 0)) none)) (cond (Nat.ble 1 pc) (cond (Nat.beq pc 1) (some (.getfield 308, 4, 11, 46, 1021, 0)) none) (cond (Nat.beq pc 0) (some (.aload_n 0, 1, 0, 0, 0, 0)) none))))))
def rc_195 (pc : Nat) : Option RI := cond (Nat.ble 19 pc) none (cond (Nat.ble 11 pc) (cond (Nat.ble 14 pc) (cond (Nat.ble 17 pc) (cond (Nat.ble 18 pc) (cond (Nat.beq pc 18) (some (.ireturn, 19, 0, 0, 0, 0)) none) (cond (Nat.beq pc 17) (some (.idiv, 18, 0, 0, 0, 0)) none)) (cond (Nat.ble 15 pc) (cond (Nat.beq pc 15) (some (.bipush 100, 17, 0, 0, 0, 0)) none) (cond (Nat.beq pc 14) (some (.imul, 15, 0, 0, 0, 0)) none))) (cond (Nat.ble 12 pc) (cond (Nat.ble 13 pc) (cond (Nat.beq pc 13) (some (.iaload, 14, 0, 0, 0, 0)) none) (cond (Nat.beq pc 12) (some (.iadd, 13, 0, 0, 0, 0)) none)) (cond (Nat.beq pc 11) (some (.iconst 3, 12, 0, 0, 0, 0)) none))) (cond (Nat.ble 5 pc) (cond (Nat.ble 9 pc) (cond (Nat.ble 10 pc) (cond (Nat.beq pc 10) (some (.imul, 11, 0, 0, 0, 0)) none) (cond (Nat.beq pc 9) (some (.iload_n 1, 10, 0, 0, 0, 0)) none)) (cond (Nat.ble 8 pc) (cond (Nat.beq pc 8) (some (.iconst 5, 9, 0, 0, 0, 0)) none) (cond (Nat.beq pc 5) (some (.getfield 53, 8, 11, 28, 1003, 0)) none))) (cond (Nat.ble 1 pc) (cond (Nat.ble 4 pc) (cond (Nat.beq pc 4) (some (.aload_n 0, 5, 0, 0, 0, 0)) none) (cond (Nat.beq pc 1) (some (.getfield 92, 4, 11, 49, 1024, 0)) none)) (cond (Nat.beq pc 0) (some (.aload_n 0, 1, 0, 0, 0, 0)) none))))
def rc_196 (pc : Nat) : Option RI := cond (Nat.ble 58 pc) none (cond (Nat.ble 25 pc) (cond (Nat.ble 41 pc) (cond (Nat.ble 49 pc) (cond (Nat.ble 54 pc) (cond (Nat.ble 57 pc) (cond (Nat.beq pc 57) (some (.ireturn, 58, 0, 0, 0, 0)) none) (cond (Nat.beq pc 54) (some (.invokevirtual 176, 57, 134, 0, 1139, 0)) none)) (cond (Nat.ble 52 pc) (cond (Nat.beq pc 52) (some (.bipush (-2), 54, 0, 0, 0, 0)) none) (cond (Nat.beq pc 49) (some (.goto 5, 52, 54, 0, 0, 0)) none))) (cond (Nat.ble 45 pc) (cond (Nat.ble 48 pc) (cond (Nat.beq pc 48) (some (.iload_n 2, 49, 0, 0, 0, 0)) none) (cond (Nat.beq pc 45) (some (.if_icmp .gt 7, 48, 52, 0, 0, 0)) none)) (cond (Nat.ble 42 pc) (cond (Nat.beq pc 42) (some (.sipush 1000, 45, 0, 0, 0, 0)) none) (cond (Nat.beq pc 41) (some (.iload_n 2, 42, 0, 0, 0, 0)) none)))) (cond (Nat.ble 31 pc) (cond (Nat.ble 37 pc) (cond (Nat.ble 40 pc) (cond (Nat.beq pc 40) (some (.aload_n 0, 41, 0, 0, 0, 0)) none) (cond (Nat.beq pc 37) (some (.goto (-20), 40, 17, 0, 0, 0)) none)) (cond (Nat.ble 34 pc) (cond (Nat.beq pc 34) (some (.iinc 2 1, 37, 0, 0, 0, 0)) none) (cond (Nat.beq pc 31) (some (.if_icmp .ge 9, 34, 40, 0, 0, 0)) none))) (cond (Nat.ble 27 pc) (cond (Nat.ble 30 pc) (cond (Nat.beq pc 30) (some (.iload_n 1, 31, 0, 0, 0, 0)) none) (cond (Nat.beq pc 27) (some (.invokevirtual 326, 30, 193, 0, 1380, 0)) none)) (cond (Nat.ble 26 pc) (cond (Nat.beq pc 26) (some (.iload_n 2, 27, 0, 0, 0, 0)) none) (cond (Nat.beq pc 25) (some (.iconst (-1), 26, 0, 0, 0, 0)) none))))) (cond (Nat.ble 11 pc) (cond (Nat.ble 17 pc) (cond (Nat.ble 21 pc) (cond (Nat.ble 24 pc) (cond (Nat.beq pc 24) (some (.aload_n 0, 25, 0, 0, 0, 0)) none) (cond (Nat.beq pc 21) (some (.if_icmp .gt 19, 24, 40, 0, 0, 0)) none)) (cond (Nat.ble 18 pc) (cond (Nat.beq pc 18) (some (.sipush 1000, 21, 0, 0, 0, 0)) none) (cond (Nat.beq pc 17) (some (.iload_n 2, 18, 0, 0, 0, 0)) none))) (cond (Nat.ble 15 pc) (cond (Nat.ble 16 pc) (cond (Nat.beq pc 16) (some (.istore_n 2, 17, 0, 0, 0, 0)) none) (cond (Nat.beq pc 15) (some (.iconst 0, 16, 0, 0, 0, 0)) none)) (cond (Nat.ble 14 pc) (cond (Nat.beq pc 14) (some (.ireturn, 15, 0, 0, 0, 0)) none) (cond (Nat.beq pc 11) (some (.invokevirtual 173, 14, 133, 0, 1135, 0)) none)))) (cond (Nat.ble 5 pc) (cond (Nat.ble 9 pc) (cond (Nat.ble 10 pc) (cond (Nat.beq pc 10) (some (.iconst 2, 11, 0, 0, 0, 0)) none) (cond (Nat.beq pc 9) (some (.aload_n 0, 10, 0, 0, 0, 0)) none)) (cond (Nat.ble 6 pc) (cond (Nat.beq pc 6) (some (.ifCond .ge 9, 9, 15, 0, 0, 0)) none) (cond (Nat.beq pc 5) (some (.iload_n 1, 6, 0, 0, 0, 0)) none))) (cond (Nat.ble 1 pc) (cond (Nat.ble 2 pc) (cond (Nat.beq pc 2) (some (.putfield 95, 5, 11, 0, 975, 0)) none) (cond (Nat.beq pc 1) (some (.iconst 0, 2, 0, 0, 0, 0)) none)) (cond (Nat.beq pc 0) (some (.aload_n 0, 1, 0, 0, 0, 0)) none)))))
def rc_197 (pc : Nat) : Option RI := cond (Nat.ble 55 pc) none (cond (Nat.ble 26 pc) (cond (Nat.ble 40 pc) (cond (Nat.ble 46 pc) (cond (Nat.ble 50 pc) (cond (Nat.ble 53 pc) (cond (Nat.ble 54 pc) (cond (Nat.beq pc 54) (some (.ireturn, 55, 0, 0, 0, 0)) none) (cond (Nat.beq pc 53) (some (.iload_n 1, 54, 0, 0, 0, 0)) none)) (cond (Nat.beq pc 50) (some (.goto (-41), 53, 9, 0, 0, 0)) none)) (cond (Nat.ble 47 pc) (cond (Nat.beq pc 47) (some (.iinc 2 1, 50, 0, 0, 0, 0)) none) (cond (Nat.beq pc 46) (some (.istore_n 1, 47, 0, 0, 0, 0)) none))) (cond (Nat.ble 44 pc) (cond (Nat.ble 45 pc) (cond (Nat.beq pc 45) (some (.iadd, 46, 0, 0, 0, 0)) none) (cond (Nat.beq pc 44) (some (.iconst 0, 45, 0, 0, 0, 0)) none)) (cond (Nat.ble 41 pc) (cond (Nat.beq pc 41) (some (.goto 4, 44, 45, 0, 0, 0)) none) (cond (Nat.beq pc 40) (some (.iconst 1, 41, 0, 0, 0, 0)) none)))) (cond (Nat.ble 32 pc) (cond (Nat.ble 34 pc) (cond (Nat.ble 37 pc) (cond (Nat.beq pc 37) (some (.if_icmp .ge 7, 40, 44, 0, 0, 0)) none) (cond (Nat.beq pc 34) (some (.invokevirtual 317, 37, 194, 0, 1384, 0)) none)) (cond (Nat.ble 33 pc) (cond (Nat.beq pc 33) (some (.iconst 0, 34, 0, 0, 0, 0)) none) (cond (Nat.beq pc 32) (some (.iload_n 2, 33, 0, 0, 0, 0)) none))) (cond (Nat.ble 28 pc) (cond (Nat.ble 31 pc) (cond (Nat.beq pc 31) (some (.aload_n 0, 32, 0, 0, 0, 0)) none) (cond (Nat.beq pc 28) (some (.invokevirtual 320, 31, 195, 0, 1388, 0)) none)) (cond (Nat.ble 27 pc) (cond (Nat.beq pc 27) (some (.iload_n 2, 28, 0, 0, 0, 0)) none) (cond (Nat.beq pc 26) (some (.aload_n 0, 27, 0, 0, 0, 0)) none))))) (cond (Nat.ble 10 pc) (cond (Nat.ble 18 pc) (cond (Nat.ble 20 pc) (cond (Nat.ble 23 pc) (cond (Nat.beq pc 23) (some (.ifCond .eq 21, 26, 44, 0, 0, 0)) none) (cond (Nat.beq pc 20) (some (.invokevirtual 259, 23, 171, 0, 1293, 0)) none)) (cond (Nat.ble 19 pc) (cond (Nat.beq pc 19) (some (.iload_n 2, 20, 0, 0, 0, 0)) none) (cond (Nat.beq pc 18) (some (.aload_n 0, 19, 0, 0, 0, 0)) none))) (cond (Nat.ble 14 pc) (cond (Nat.ble 17 pc) (cond (Nat.beq pc 17) (some (.iload_n 1, 18, 0, 0, 0, 0)) none) (cond (Nat.beq pc 14) (some (.if_icmp .ge 39, 17, 53, 0, 0, 0)) none)) (cond (Nat.ble 11 pc) (cond (Nat.beq pc 11) (some (.getfield 224, 14, 11, 23, 998, 0)) none) (cond (Nat.beq pc 10) (some (.aload_n 0, 11, 0, 0, 0, 0)) none)))) (cond (Nat.ble 6 pc) (cond (Nat.ble 8 pc) (cond (Nat.ble 9 pc) (cond (Nat.beq pc 9) (some (.iload_n 2, 10, 0, 0, 0, 0)) none) (cond (Nat.beq pc 8) (some (.istore_n 2, 9, 0, 0, 0, 0)) none)) (cond (Nat.ble 7 pc) (cond (Nat.beq pc 7) (some (.iconst 0, 8, 0, 0, 0, 0)) none) (cond (Nat.beq pc 6) (some (.istore_n 1, 7, 0, 0, 0, 0)) none))) (cond (Nat.ble 2 pc) (cond (Nat.ble 5 pc) (cond (Nat.beq pc 5) (some (.iconst 0, 6, 0, 0, 0, 0)) none) (cond (Nat.beq pc 2) (some (.putfield 95, 5, 11, 0, 975, 0)) none)) (cond (Nat.ble 1 pc) (cond (Nat.beq pc 1) (some (.iconst 0, 2, 0, 0, 0, 0)) none) (cond (Nat.beq pc 0) (some (.aload_n 0, 1, 0, 0, 0, 0)) none))))))
def rc_198 (pc : Nat) : Option RI := cond (Nat.ble 89 pc) none (cond (Nat.ble 46 pc) (cond (Nat.ble 66 pc) (cond (Nat.ble 75 pc) (cond (Nat.ble 81 pc) (cond (Nat.ble 87 pc) (cond (Nat.ble 88 pc) (cond (Nat.beq pc 88) (some (.ireturn, 89, 0, 0, 0, 0)) none) (cond (Nat.beq pc 87) (some (.iload_n 2, 88, 0, 0, 0, 0)) none)) (cond (Nat.ble 84 pc) (cond (Nat.beq pc 84) (some (.goto (-65), 87, 19, 0, 0, 0)) none) (cond (Nat.beq pc 81) (some (.iinc 3 1, 84, 0, 0, 0, 0)) none))) (cond (Nat.ble 79 pc) (cond (Nat.ble 80 pc) (cond (Nat.beq pc 80) (some (.istore_n 2, 81, 0, 0, 0, 0)) none) (cond (Nat.beq pc 79) (some (.iadd, 80, 0, 0, 0, 0)) none)) (cond (Nat.ble 78 pc) (cond (Nat.beq pc 78) (some (.iconst 0, 79, 0, 0, 0, 0)) none) (cond (Nat.beq pc 75) (some (.goto 4, 78, 79, 0, 0, 0)) none)))) (cond (Nat.ble 69 pc) (cond (Nat.ble 71 pc) (cond (Nat.ble 74 pc) (cond (Nat.beq pc 74) (some (.iconst 1, 75, 0, 0, 0, 0)) none) (cond (Nat.beq pc 71) (some (.if_icmp .ge 7, 74, 78, 0, 0, 0)) none)) (cond (Nat.ble 70 pc) (cond (Nat.beq pc 70) (some (.iaload, 71, 0, 0, 0, 0)) none) (cond (Nat.beq pc 69) (some (.iadd, 70, 0, 0, 0, 0)) none))) (cond (Nat.ble 67 pc) (cond (Nat.ble 68 pc) (cond (Nat.beq pc 68) (some (.iconst 4, 69, 0, 0, 0, 0)) none) (cond (Nat.beq pc 67) (some (.imul, 68, 0, 0, 0, 0)) none)) (cond (Nat.beq pc 66) (some (.iload_n 3, 67, 0, 0, 0, 0)) none)))) (cond (Nat.ble 57 pc) (cond (Nat.ble 60 pc) (cond (Nat.ble 62 pc) (cond (Nat.ble 65 pc) (cond (Nat.beq pc 65) (some (.iconst 5, 66, 0, 0, 0, 0)) none) (cond (Nat.beq pc 62) (some (.getfield 53, 65, 11, 28, 1003, 0)) none)) (cond (Nat.ble 61 pc) (cond (Nat.beq pc 61) (some (.aload_n 0, 62, 0, 0, 0, 0)) none) (cond (Nat.beq pc 60) (some (.iaload, 61, 0, 0, 0, 0)) none))) (cond (Nat.ble 58 pc) (cond (Nat.ble 59 pc) (cond (Nat.beq pc 59) (some (.iadd, 60, 0, 0, 0, 0)) none) (cond (Nat.beq pc 58) (some (.iconst 3, 59, 0, 0, 0, 0)) none)) (cond (Nat.beq pc 57) (some (.imul, 58, 0, 0, 0, 0)) none))) (cond (Nat.ble 51 pc) (cond (Nat.ble 55 pc) (cond (Nat.ble 56 pc) (cond (Nat.beq pc 56) (some (.iload_n 3, 57, 0, 0, 0, 0)) none) (cond (Nat.beq pc 55) (some (.iconst 5, 56, 0, 0, 0, 0)) none)) (cond (Nat.ble 52 pc) (cond (Nat.beq pc 52) (some (.getfield 53, 55, 11, 28, 1003, 0)) none) (cond (Nat.beq pc 51) (some (.aload_n 0, 52, 0, 0, 0, 0)) none))) (cond (Nat.ble 47 pc) (cond (Nat.ble 48 pc) (cond (Nat.beq pc 48) (some (.if_icmp .ne 30, 51, 78, 0, 0, 0)) none) (cond (Nat.beq pc 47) (some (.iload_n 1, 48, 0, 0, 0, 0)) none)) (cond (Nat.beq pc 46) (some (.iaload, 47, 0, 0, 0, 0)) none))))) (cond (Nat.ble 20 pc) (cond (Nat.ble 33 pc) (cond (Nat.ble 40 pc) (cond (Nat.ble 44 pc) (cond (Nat.ble 45 pc) (cond (Nat.beq pc 45) (some (.iaload, 46, 0, 0, 0, 0)) none) (cond (Nat.beq pc 44) (some (.iload_n 3, 45, 0, 0, 0, 0)) none)) (cond (Nat.ble 41 pc) (cond (Nat.beq pc 41) (some (.getfield 56, 44, 11, 29, 1004, 0)) none) (cond (Nat.beq pc 40) (some (.aload_n 0, 41, 0, 0, 0, 0)) none))) (cond (Nat.ble 36 pc) (cond (Nat.ble 37 pc) (cond (Nat.beq pc 37) (some (.getfield 31, 40, 11, 19, 994, 0)) none) (cond (Nat.beq pc 36) (some (.aload_n 0, 37, 0, 0, 0, 0)) none)) (cond (Nat.beq pc 33) (some (.ifCond .eq 45, 36, 78, 0, 0, 0)) none))) (cond (Nat.ble 27 pc) (cond (Nat.ble 29 pc) (cond (Nat.ble 30 pc) (cond (Nat.beq pc 30) (some (.invokevirtual 259, 33, 171, 0, 1293, 0)) none) (cond (Nat.beq pc 29) (some (.iload_n 3, 30, 0, 0, 0, 0)) none)) (cond (Nat.ble 28 pc) (cond (Nat.beq pc 28) (some (.aload_n 0, 29, 0, 0, 0, 0)) none) (cond (Nat.beq pc 27) (some (.iload_n 2, 28, 0, 0, 0, 0)) none))) (cond (Nat.ble 21 pc) (cond (Nat.ble 24 pc) (cond (Nat.beq pc 24) (some (.if_icmp .ge 63, 27, 87, 0, 0, 0)) none) (cond (Nat.beq pc 21) (some (.getfield 224, 24, 11, 23, 998, 0)) none)) (cond (Nat.beq pc 20) (some (.aload_n 0, 21, 0, 0, 0, 0)) none)))) (cond (Nat.ble 13 pc) (cond (Nat.ble 16 pc) (cond (Nat.ble 18 pc) (cond (Nat.ble 19 pc) (cond (Nat.beq pc 19) (some (.iload_n 3, 20, 0, 0, 0, 0)) none) (cond (Nat.beq pc 18) (some (.istore_n 3, 19, 0, 0, 0, 0)) none)) (cond (Nat.ble 17 pc) (cond (Nat.beq pc 17) (some (.iconst 0, 18, 0, 0, 0, 0)) none) (cond (Nat.beq pc 16) (some (.istore_n 2, 17, 0, 0, 0, 0)) none))) (cond (Nat.ble 14 pc) (cond (Nat.ble 15 pc) (cond (Nat.beq pc 15) (some (.iconst 0, 16, 0, 0, 0, 0)) none) (cond (Nat.beq pc 14) (some (.ireturn, 15, 0, 0, 0, 0)) none)) (cond (Nat.beq pc 13) (some (.iconst (-1), 14, 0, 0, 0, 0)) none))) (cond (Nat.ble 5 pc) (cond (Nat.ble 7 pc) (cond (Nat.ble 10 pc) (cond (Nat.beq pc 10) (some (.ifCond .ne 5, 13, 15, 0, 0, 0)) none) (cond (Nat.beq pc 7) (some (.invokevirtual 179, 10, 136, 0, 1147, 0)) none)) (cond (Nat.ble 6 pc) (cond (Nat.beq pc 6) (some (.iload_n 1, 7, 0, 0, 0, 0)) none) (cond (Nat.beq pc 5) (some (.aload_n 0, 6, 0, 0, 0, 0)) none))) (cond (Nat.ble 1 pc) (cond (Nat.ble 2 pc) (cond (Nat.beq pc 2) (some (.putfield 95, 5, 11, 0, 975, 0)) none) (cond (Nat.beq pc 1) (some (.iconst 0, 2, 0, 0, 0, 0)) none)) (cond (Nat.beq pc 0) (some (.aload_n 0, 1, 0, 0, 0, 0)) none))))))
def rc_199 (pc : Nat) : Option RI := cond (Nat.ble 79 pc) none (cond (Nat.ble 41 pc) (cond (Nat.ble 60 pc) (cond (Nat.ble 68 pc) (cond (Nat.ble 71 pc) (cond (Nat.ble 77 pc) (cond (Nat.ble 78 pc) (cond (Nat.beq pc 78) (some (.ireturn, 79, 0, 0, 0, 0)) none) (cond (Nat.beq pc 77) (some (.iconst (-1), 78, 0, 0, 0, 0)) none)) (cond (Nat.ble 74 pc) (cond (Nat.beq pc 74) (some (.goto (-65), 77, 9, 0, 0, 0)) none) (cond (Nat.beq pc 71) (some (.iinc 3 1, 74, 0, 0, 0, 0)) none))) (cond (Nat.ble 69 pc) (cond (Nat.ble 70 pc) (cond (Nat.beq pc 70) (some (.istore_n 2, 71, 0, 0, 0, 0)) none) (cond (Nat.beq pc 69) (some (.isub, 70, 0, 0, 0, 0)) none)) (cond (Nat.beq pc 68) (some (.iaload, 69, 0, 0, 0, 0)) none))) (cond (Nat.ble 65 pc) (cond (Nat.ble 66 pc) (cond (Nat.ble 67 pc) (cond (Nat.beq pc 67) (some (.iadd, 68, 0, 0, 0, 0)) none) (cond (Nat.beq pc 66) (some (.iconst 1, 67, 0, 0, 0, 0)) none)) (cond (Nat.beq pc 65) (some (.imul, 66, 0, 0, 0, 0)) none)) (cond (Nat.ble 63 pc) (cond (Nat.ble 64 pc) (cond (Nat.beq pc 64) (some (.iload_n 3, 65, 0, 0, 0, 0)) none) (cond (Nat.beq pc 63) (some (.iconst 5, 64, 0, 0, 0, 0)) none)) (cond (Nat.beq pc 60) (some (.getfield 53, 63, 11, 28, 1003, 0)) none)))) (cond (Nat.ble 51 pc) (cond (Nat.ble 56 pc) (cond (Nat.ble 58 pc) (cond (Nat.ble 59 pc) (cond (Nat.beq pc 59) (some (.aload_n 0, 60, 0, 0, 0, 0)) none) (cond (Nat.beq pc 58) (some (.iload_n 2, 59, 0, 0, 0, 0)) none)) (cond (Nat.ble 57 pc) (cond (Nat.beq pc 57) (some (.ireturn, 58, 0, 0, 0, 0)) none) (cond (Nat.beq pc 56) (some (.iaload, 57, 0, 0, 0, 0)) none))) (cond (Nat.ble 54 pc) (cond (Nat.ble 55 pc) (cond (Nat.beq pc 55) (some (.iaload, 56, 0, 0, 0, 0)) none) (cond (Nat.beq pc 54) (some (.iload_n 3, 55, 0, 0, 0, 0)) none)) (cond (Nat.beq pc 51) (some (.getfield 62, 54, 11, 31, 1006, 0)) none))) (cond (Nat.ble 46 pc) (cond (Nat.ble 47 pc) (cond (Nat.ble 50 pc) (cond (Nat.beq pc 50) (some (.aload_n 0, 51, 0, 0, 0, 0)) none) (cond (Nat.beq pc 47) (some (.getfield 41, 50, 11, 24, 999, 0)) none)) (cond (Nat.beq pc 46) (some (.aload_n 0, 47, 0, 0, 0, 0)) none)) (cond (Nat.ble 42 pc) (cond (Nat.ble 43 pc) (cond (Nat.beq pc 43) (some (.if_icmp .ge 15, 46, 58, 0, 0, 0)) none) (cond (Nat.beq pc 42) (some (.iaload, 43, 0, 0, 0, 0)) none)) (cond (Nat.beq pc 41) (some (.iadd, 42, 0, 0, 0, 0)) none))))) (cond (Nat.ble 18 pc) (cond (Nat.ble 32 pc) (cond (Nat.ble 37 pc) (cond (Nat.ble 39 pc) (cond (Nat.ble 40 pc) (cond (Nat.beq pc 40) (some (.iconst 1, 41, 0, 0, 0, 0)) none) (cond (Nat.beq pc 39) (some (.imul, 40, 0, 0, 0, 0)) none)) (cond (Nat.ble 38 pc) (cond (Nat.beq pc 38) (some (.iload_n 3, 39, 0, 0, 0, 0)) none) (cond (Nat.beq pc 37) (some (.iconst 5, 38, 0, 0, 0, 0)) none))) (cond (Nat.ble 33 pc) (cond (Nat.ble 34 pc) (cond (Nat.beq pc 34) (some (.getfield 53, 37, 11, 28, 1003, 0)) none) (cond (Nat.beq pc 33) (some (.aload_n 0, 34, 0, 0, 0, 0)) none)) (cond (Nat.beq pc 32) (some (.iload_n 2, 33, 0, 0, 0, 0)) none))) (cond (Nat.ble 23 pc) (cond (Nat.ble 26 pc) (cond (Nat.ble 29 pc) (cond (Nat.beq pc 29) (some (.goto 42, 32, 71, 0, 0, 0)) none) (cond (Nat.beq pc 26) (some (.ifCond .ne 6, 29, 32, 0, 0, 0)) none)) (cond (Nat.beq pc 23) (some (.invokevirtual 259, 26, 171, 0, 1293, 0)) none)) (cond (Nat.ble 21 pc) (cond (Nat.ble 22 pc) (cond (Nat.beq pc 22) (some (.iload_n 3, 23, 0, 0, 0, 0)) none) (cond (Nat.beq pc 21) (some (.aload_n 0, 22, 0, 0, 0, 0)) none)) (cond (Nat.beq pc 18) (some (.ifCond .lt 59, 21, 77, 0, 0, 0)) none)))) (cond (Nat.ble 8 pc) (cond (Nat.ble 11 pc) (cond (Nat.ble 14 pc) (cond (Nat.ble 17 pc) (cond (Nat.beq pc 17) (some (.iload_n 2, 18, 0, 0, 0, 0)) none) (cond (Nat.beq pc 14) (some (.if_icmp .ge 63, 17, 77, 0, 0, 0)) none)) (cond (Nat.beq pc 11) (some (.getfield 224, 14, 11, 23, 998, 0)) none)) (cond (Nat.ble 9 pc) (cond (Nat.ble 10 pc) (cond (Nat.beq pc 10) (some (.aload_n 0, 11, 0, 0, 0, 0)) none) (cond (Nat.beq pc 9) (some (.iload_n 3, 10, 0, 0, 0, 0)) none)) (cond (Nat.beq pc 8) (some (.istore_n 3, 9, 0, 0, 0, 0)) none))) (cond (Nat.ble 5 pc) (cond (Nat.ble 6 pc) (cond (Nat.ble 7 pc) (cond (Nat.beq pc 7) (some (.iconst 0, 8, 0, 0, 0, 0)) none) (cond (Nat.beq pc 6) (some (.istore_n 2, 7, 0, 0, 0, 0)) none)) (cond (Nat.beq pc 5) (some (.iload_n 1, 6, 0, 0, 0, 0)) none)) (cond (Nat.ble 1 pc) (cond (Nat.ble 2 pc) (cond (Nat.beq pc 2) (some (.putfield 95, 5, 11, 0, 975, 0)) none) (cond (Nat.beq pc 1) (some (.iconst 0, 2, 0, 0, 0, 0)) none)) (cond (Nat.beq pc 0) (some (.aload_n 0, 1, 0, 0, 0, 0)) none))))))
def rc_200 (pc : Nat) : Option RI := cond (Nat.ble 116 pc) none (cond (Nat.ble 76 pc) (cond (Nat.ble 98 pc) (cond (Nat.ble 108 pc) (cond (Nat.ble 113 pc) (cond (Nat.ble 114 pc) (cond (Nat.ble 115 pc) (cond (Nat.beq pc 115) (some (.ireturn, 116, 0, 0, 0, 0)) none) (cond (Nat.beq pc 114) (some (.iconst (-1), 115, 0, 0, 0, 0)) none)) (cond (Nat.beq pc 113) (some (.ireturn, 114, 0, 0, 0, 0)) none)) (cond (Nat.ble 109 pc) (cond (Nat.ble 110 pc) (cond (Nat.beq pc 110) (some (.getfield 150, 113, 11, 6, 981, 0)) none) (cond (Nat.beq pc 109) (some (.aload_n 0, 110, 0, 0, 0, 0)) none)) (cond (Nat.beq pc 108) (some (.ireturn, 109, 0, 0, 0, 0)) none))) (cond (Nat.ble 101 pc) (cond (Nat.ble 104 pc) (cond (Nat.ble 107 pc) (cond (Nat.beq pc 107) (some (.iload_n 2, 108, 0, 0, 0, 0)) none) (cond (Nat.beq pc 104) (some (.goto (-27), 107, 77, 0, 0, 0)) none)) (cond (Nat.beq pc 101) (some (.iinc 3 1, 104, 0, 0, 0, 0)) none)) (cond (Nat.ble 99 pc) (cond (Nat.ble 100 pc) (cond (Nat.beq pc 100) (some (.istore_n 2, 101, 0, 0, 0, 0)) none) (cond (Nat.beq pc 99) (some (.iadd, 100, 0, 0, 0, 0)) none)) (cond (Nat.beq pc 98) (some (.iconst 0, 99, 0, 0, 0, 0)) none)))) (cond (Nat.ble 86 pc) (cond (Nat.ble 91 pc) (cond (Nat.ble 94 pc) (cond (Nat.ble 95 pc) (cond (Nat.beq pc 95) (some (.goto 4, 98, 99, 0, 0, 0)) none) (cond (Nat.beq pc 94) (some (.iconst 1, 95, 0, 0, 0, 0)) none)) (cond (Nat.beq pc 91) (some (.ifCond .eq 7, 94, 98, 0, 0, 0)) none)) (cond (Nat.ble 87 pc) (cond (Nat.ble 88 pc) (cond (Nat.beq pc 88) (some (.invokevirtual 259, 91, 171, 0, 1293, 0)) none) (cond (Nat.beq pc 87) (some (.iload_n 3, 88, 0, 0, 0, 0)) none)) (cond (Nat.beq pc 86) (some (.aload_n 0, 87, 0, 0, 0, 0)) none))) (cond (Nat.ble 79 pc) (cond (Nat.ble 82 pc) (cond (Nat.ble 85 pc) (cond (Nat.beq pc 85) (some (.iload_n 2, 86, 0, 0, 0, 0)) none) (cond (Nat.beq pc 82) (some (.if_icmp .ge 25, 85, 107, 0, 0, 0)) none)) (cond (Nat.beq pc 79) (some (.getfield 224, 82, 11, 23, 998, 0)) none)) (cond (Nat.ble 77 pc) (cond (Nat.ble 78 pc) (cond (Nat.beq pc 78) (some (.aload_n 0, 79, 0, 0, 0, 0)) none) (cond (Nat.beq pc 77) (some (.iload_n 3, 78, 0, 0, 0, 0)) none)) (cond (Nat.beq pc 76) (some (.istore_n 3, 77, 0, 0, 0, 0)) none))))) (cond (Nat.ble 58 pc) (cond (Nat.ble 68 pc) (cond (Nat.ble 73 pc) (cond (Nat.ble 74 pc) (cond (Nat.ble 75 pc) (cond (Nat.beq pc 75) (some (.iconst 0, 76, 0, 0, 0, 0)) none) (cond (Nat.beq pc 74) (some (.istore_n 2, 75, 0, 0, 0, 0)) none)) (cond (Nat.beq pc 73) (some (.iconst 0, 74, 0, 0, 0, 0)) none)) (cond (Nat.ble 69 pc) (cond (Nat.ble 72 pc) (cond (Nat.beq pc 72) (some (.ireturn, 73, 0, 0, 0, 0)) none) (cond (Nat.beq pc 69) (some (.getfield 224, 72, 11, 23, 998, 0)) none)) (cond (Nat.beq pc 68) (some (.aload_n 0, 69, 0, 0, 0, 0)) none))) (cond (Nat.ble 63 pc) (cond (Nat.ble 64 pc) (cond (Nat.ble 67 pc) (cond (Nat.beq pc 67) (some (.ireturn, 68, 0, 0, 0, 0)) none) (cond (Nat.beq pc 64) (some (.getfield 237, 67, 11, 22, 997, 0)) none)) (cond (Nat.beq pc 63) (some (.aload_n 0, 64, 0, 0, 0, 0)) none)) (cond (Nat.ble 59 pc) (cond (Nat.ble 62 pc) (cond (Nat.beq pc 62) (some (.ireturn, 63, 0, 0, 0, 0)) none) (cond (Nat.beq pc 59) (some (.getfield 170, 62, 11, 16, 991, 0)) none)) (cond (Nat.beq pc 58) (some (.aload_n 0, 59, 0, 0, 0, 0)) none)))) (cond (Nat.ble 48 pc) (cond (Nat.ble 53 pc) (cond (Nat.ble 54 pc) (cond (Nat.ble 57 pc) (cond (Nat.beq pc 57) (some (.ireturn, 58, 0, 0, 0, 0)) none) (cond (Nat.beq pc 54) (some (.getfield 167, 57, 11, 15, 990, 0)) none)) (cond (Nat.beq pc 53) (some (.aload_n 0, 54, 0, 0, 0, 0)) none)) (cond (Nat.ble 49 pc) (cond (Nat.ble 52 pc) (cond (Nat.beq pc 52) (some (.ireturn, 53, 0, 0, 0, 0)) none) (cond (Nat.beq pc 49) (some (.getfield 164, 52, 11, 14, 989, 0)) none)) (cond (Nat.beq pc 48) (some (.aload_n 0, 49, 0, 0, 0, 0)) none))) (cond (Nat.ble 2 pc) (cond (Nat.ble 5 pc) (cond (Nat.ble 6 pc) (cond (Nat.beq pc 6) (some (.tableswitch 108 0 6 #[42, 47, 52, 57, 62, 67, 103], 48, 0, 0, 0, 0)) none) (cond (Nat.beq pc 5) (some (.iload_n 1, 6, 0, 0, 0, 0)) none)) (cond (Nat.beq pc 2) (some (.putfield 95, 5, 11, 0, 975, 0)) none)) (cond (Nat.ble 1 pc) (cond (Nat.beq pc 1) (some (.iconst 0, 2, 0, 0, 0, 0)) none) (cond (Nat.beq pc 0) (some (.aload_n 0, 1, 0, 0, 0, 0)) none))))))
def rc_201 (pc : Nat) : Option RI := cond (Nat.ble 10 pc) none (cond (Nat.ble 5 pc) (cond (Nat.ble 6 pc) (cond (Nat.ble 9 pc) (cond (Nat.beq pc 9) (some (.ireturn, 10, 0, 0, 0, 0)) none) (cond (Nat.beq pc 6) (some (.getfield 98, 9, 11, 1, 976, 0)) none)) (cond (Nat.beq pc 5) (some (.aload_n 0, 6, 0, 0, 0, 0)) none)) (cond (Nat.ble 1 pc) (cond (Nat.ble 2 pc) (cond (Nat.beq pc 2) (some (.putfield 95, 5, 11, 0, 975, 0)) none) (cond (Nat.beq pc 1) (some (.iconst 0, 2, 0, 0, 0, 0)) none)) (cond (Nat.beq pc 0) (some (.aload_n 0, 1, 0, 0, 0, 0)) none)))
def rc_202 (pc : Nat) : Option RI := cond (Nat.ble 1152 pc) none (cond (Nat.ble 639 pc) (cond (Nat.ble 898 pc) (cond (Nat.ble 1013 pc) (cond (Nat.ble 1080 pc) (cond (Nat.ble 1112 pc) (cond (Nat.ble 1130 pc) (cond (Nat.ble 1142 pc) (cond (Nat.ble 1147 pc) (cond (Nat.ble 1150 pc) (cond (Nat.ble 1151 pc) (cond (Nat.beq pc 1151) (some (.ireturn, 1152, 0, 0, 0, 0)) none) (cond (Nat.beq pc 1150) (some (.iconst 1, 1151, 0, 0, 0, 0)) none)) (cond (Nat.beq pc 1147) (some (.goto (-1129), 1150, 18, 0, 0, 0)) none)) (cond (Nat.ble 1143 pc) (cond (Nat.ble 1144 pc) (cond (Nat.beq pc 1144) (some (.iinc 3 6, 1147, 0, 0, 0, 0)) none) (cond (Nat.beq pc 1143) (some (.ireturn, 1144, 0, 0, 0, 0)) none)) (cond (Nat.beq pc 1142) (some (.iconst 0, 1143, 0, 0, 0, 0)) none))) (cond (Nat.ble 1135 pc) (cond (Nat.ble 1136 pc) (cond (Nat.ble 1139 pc) (cond (Nat.beq pc 1139) (some (.if_icmp .eq 5, 1142, 1144, 0, 0, 0)) none) (cond (Nat.beq pc 1136) (some (.invokevirtual 157, 1139, 201, 0, 1413, 0)) none)) (cond (Nat.beq pc 1135) (some (.aload_n 2, 1136, 0, 0, 0, 0)) none)) (cond (Nat.ble 1131 pc) (cond (Nat.ble 1132 pc) (cond (Nat.beq pc 1132) (some (.invokevirtual 154, 1135, 125, 0, 895, 0)) none) (cond (Nat.beq pc 1131) (some (.aload_n 1, 1132, 0, 0, 0, 0)) none)) (cond (Nat.beq pc 1130) (some (.ireturn, 1131, 0, 0, 0, 0)) none)))) (cond (Nat.ble 1120 pc) (cond (Nat.ble 1123 pc) (cond (Nat.ble 1126 pc) (cond (Nat.ble 1129 pc) (cond (Nat.beq pc 1129) (some (.iconst 0, 1130, 0, 0, 0, 0)) none) (cond (Nat.beq pc 1126) (some (.if_icmp .eq 18, 1129, 1144, 0, 0, 0)) none)) (cond (Nat.beq pc 1123) (some (.invokevirtual 153, 1126, 200, 0, 1409, 0)) none)) (cond (Nat.ble 1121 pc) (cond (Nat.ble 1122 pc) (cond (Nat.beq pc 1122) (some (.iaload, 1123, 0, 0, 0, 0)) none) (cond (Nat.beq pc 1121) (some (.iadd, 1122, 0, 0, 0, 0)) none)) (cond (Nat.beq pc 1120) (some (.iconst 1, 1121, 0, 0, 0, 0)) none))) (cond (Nat.ble 1117 pc) (cond (Nat.ble 1118 pc) (cond (Nat.ble 1119 pc) (cond (Nat.beq pc 1119) (some (.iload_n 3, 1120, 0, 0, 0, 0)) none) (cond (Nat.beq pc 1118) (some (.aload_n 0, 1119, 0, 0, 0, 0)) none)) (cond (Nat.beq pc 1117) (some (.aload_n 2, 1118, 0, 0, 0, 0)) none)) (cond (Nat.ble 1113 pc) (cond (Nat.ble 1114 pc) (cond (Nat.beq pc 1114) (some (.invokevirtual 150, 1117, 123, 0, 887, 0)) none) (cond (Nat.beq pc 1113) (some (.iaload, 1114, 0, 0, 0, 0)) none)) (cond (Nat.beq pc 1112) (some (.iadd, 1113, 0, 0, 0, 0)) none))))) (cond (Nat.ble 1096 pc) (cond (Nat.ble 1106 pc) (cond (Nat.ble 1109 pc) (cond (Nat.ble 1110 pc) (cond (Nat.ble 1111 pc) (cond (Nat.beq pc 1111) (some (.iconst 1, 1112, 0, 0, 0, 0)) none) (cond (Nat.beq pc 1110) (some (.iload_n 3, 1111, 0, 0, 0, 0)) none)) (cond (Nat.beq pc 1109) (some (.aload_n 0, 1110, 0, 0, 0, 0)) none)) (cond (Nat.ble 1107 pc) (cond (Nat.ble 1108 pc) (cond (Nat.beq pc 1108) (some (.aload_n 1, 1109, 0, 0, 0, 0)) none) (cond (Nat.beq pc 1107) (some (.ireturn, 1108, 0, 0, 0, 0)) none)) (cond (Nat.beq pc 1106) (some (.iconst 0, 1107, 0, 0, 0, 0)) none))) (cond (Nat.ble 1099 pc) (cond (Nat.ble 1100 pc) (cond (Nat.ble 1103 pc) (cond (Nat.beq pc 1103) (some (.if_icmp .eq 41, 1106, 1144, 0, 0, 0)) none) (cond (Nat.beq pc 1100) (some (.invokevirtual 149, 1103, 199, 0, 1405, 0)) none)) (cond (Nat.beq pc 1099) (some (.iaload, 1100, 0, 0, 0, 0)) none)) (cond (Nat.ble 1097 pc) (cond (Nat.ble 1098 pc) (cond (Nat.beq pc 1098) (some (.iadd, 1099, 0, 0, 0, 0)) none) (cond (Nat.beq pc 1097) (some (.iconst 1, 1098, 0, 0, 0, 0)) none)) (cond (Nat.beq pc 1096) (some (.iload_n 3, 1097, 0, 0, 0, 0)) none)))) (cond (Nat.ble 1088 pc) (cond (Nat.ble 1091 pc) (cond (Nat.ble 1094 pc) (cond (Nat.ble 1095 pc) (cond (Nat.beq pc 1095) (some (.aload_n 0, 1096, 0, 0, 0, 0)) none) (cond (Nat.beq pc 1094) (some (.aload_n 2, 1095, 0, 0, 0, 0)) none)) (cond (Nat.beq pc 1091) (some (.invokevirtual 146, 1094, 122, 0, 883, 0)) none)) (cond (Nat.ble 1089 pc) (cond (Nat.ble 1090 pc) (cond (Nat.beq pc 1090) (some (.iaload, 1091, 0, 0, 0, 0)) none) (cond (Nat.beq pc 1089) (some (.iadd, 1090, 0, 0, 0, 0)) none)) (cond (Nat.beq pc 1088) (some (.iconst 1, 1089, 0, 0, 0, 0)) none))) (cond (Nat.ble 1085 pc) (cond (Nat.ble 1086 pc) (cond (Nat.ble 1087 pc) (cond (Nat.beq pc 1087) (some (.iload_n 3, 1088, 0, 0, 0, 0)) none) (cond (Nat.beq pc 1086) (some (.aload_n 0, 1087, 0, 0, 0, 0)) none)) (cond (Nat.beq pc 1085) (some (.aload_n 1, 1086, 0, 0, 0, 0)) none)) (cond (Nat.ble 1083 pc) (cond (Nat.ble 1084 pc) (cond (Nat.beq pc 1084) (some (.ireturn, 1085, 0, 0, 0, 0)) none) (cond (Nat.beq pc 1083) (some (.iconst 0, 1084, 0, 0, 0, 0)) none)) (cond (Nat.beq pc 1080) (some (.if_icmp .eq 64, 1083, 1144, 0, 0, 0)) none)))))) (cond (Nat.ble 1044 pc) (cond (Nat.ble 1064 pc) (cond (Nat.ble 1072 pc) (cond (Nat.ble 1075 pc) (cond (Nat.ble 1076 pc) (cond (Nat.ble 1077 pc) (cond (Nat.beq pc 1077) (some (.invokevirtual 145, 1080, 198, 0, 1401, 0)) none) (cond (Nat.beq pc 1076) (some (.iaload, 1077, 0, 0, 0, 0)) none)) (cond (Nat.beq pc 1075) (some (.iadd, 1076, 0, 0, 0, 0)) none)) (cond (Nat.ble 1073 pc) (cond (Nat.ble 1074 pc) (cond (Nat.beq pc 1074) (some (.iconst 1, 1075, 0, 0, 0, 0)) none) (cond (Nat.beq pc 1073) (some (.iload_n 3, 1074, 0, 0, 0, 0)) none)) (cond (Nat.beq pc 1072) (some (.aload_n 0, 1073, 0, 0, 0, 0)) none))) (cond (Nat.ble 1067 pc) (cond (Nat.ble 1068 pc) (cond (Nat.ble 1071 pc) (cond (Nat.beq pc 1071) (some (.aload_n 2, 1072, 0, 0, 0, 0)) none) (cond (Nat.beq pc 1068) (some (.invokevirtual 142, 1071, 121, 0, 879, 0)) none)) (cond (Nat.beq pc 1067) (some (.iaload, 1068, 0, 0, 0, 0)) none)) (cond (Nat.ble 1065 pc) (cond (Nat.ble 1066 pc) (cond (Nat.beq pc 1066) (some (.iadd, 1067, 0, 0, 0, 0)) none) (cond (Nat.beq pc 1065) (some (.iconst 1, 1066, 0, 0, 0, 0)) none)) (cond (Nat.beq pc 1064) (some (.iload_n 3, 1065, 0, 0, 0, 0)) none)))) (cond (Nat.ble 1054 pc) (cond (Nat.ble 1061 pc) (cond (Nat.ble 1062 pc) (cond (Nat.ble 1063 pc) (cond (Nat.beq pc 1063) (some (.aload_n 0, 1064, 0, 0, 0, 0)) none) (cond (Nat.beq pc 1062) (some (.aload_n 1, 1063, 0, 0, 0, 0)) none)) (cond (Nat.beq pc 1061) (some (.ireturn, 1062, 0, 0, 0, 0)) none)) (cond (Nat.ble 1057 pc) (cond (Nat.ble 1060 pc) (cond (Nat.beq pc 1060) (some (.iconst 0, 1061, 0, 0, 0, 0)) none) (cond (Nat.beq pc 1057) (some (.if_icmp .eq 87, 1060, 1144, 0, 0, 0)) none)) (cond (Nat.beq pc 1054) (some (.invokevirtual 141, 1057, 197, 0, 1397, 0)) none))) (cond (Nat.ble 1049 pc) (cond (Nat.ble 1050 pc) (cond (Nat.ble 1053 pc) (cond (Nat.beq pc 1053) (some (.aload_n 2, 1054, 0, 0, 0, 0)) none) (cond (Nat.beq pc 1050) (some (.invokevirtual 138, 1053, 120, 0, 873, 0)) none)) (cond (Nat.beq pc 1049) (some (.aload_n 1, 1050, 0, 0, 0, 0)) none)) (cond (Nat.ble 1047 pc) (cond (Nat.ble 1048 pc) (cond (Nat.beq pc 1048) (some (.ireturn, 1049, 0, 0, 0, 0)) none) (cond (Nat.beq pc 1047) (some (.iconst 0, 1048, 0, 0, 0, 0)) none)) (cond (Nat.beq pc 1044) (some (.if_icmp .eq 100, 1047, 1144, 0, 0, 0)) none))))) (cond (Nat.ble 1028 pc) (cond (Nat.ble 1036 pc) (cond (Nat.ble 1039 pc) (cond (Nat.ble 1040 pc) (cond (Nat.ble 1041 pc) (cond (Nat.beq pc 1041) (some (.invokevirtual 137, 1044, 196, 0, 1393, 0)) none) (cond (Nat.beq pc 1040) (some (.iaload, 1041, 0, 0, 0, 0)) none)) (cond (Nat.beq pc 1039) (some (.iadd, 1040, 0, 0, 0, 0)) none)) (cond (Nat.ble 1037 pc) (cond (Nat.ble 1038 pc) (cond (Nat.beq pc 1038) (some (.iconst 1, 1039, 0, 0, 0, 0)) none) (cond (Nat.beq pc 1037) (some (.iload_n 3, 1038, 0, 0, 0, 0)) none)) (cond (Nat.beq pc 1036) (some (.aload_n 0, 1037, 0, 0, 0, 0)) none))) (cond (Nat.ble 1031 pc) (cond (Nat.ble 1032 pc) (cond (Nat.ble 1035 pc) (cond (Nat.beq pc 1035) (some (.aload_n 2, 1036, 0, 0, 0, 0)) none) (cond (Nat.beq pc 1032) (some (.invokevirtual 134, 1035, 118, 0, 865, 0)) none)) (cond (Nat.beq pc 1031) (some (.iaload, 1032, 0, 0, 0, 0)) none)) (cond (Nat.ble 1029 pc) (cond (Nat.ble 1030 pc) (cond (Nat.beq pc 1030) (some (.iadd, 1031, 0, 0, 0, 0)) none) (cond (Nat.beq pc 1029) (some (.iconst 1, 1030, 0, 0, 0, 0)) none)) (cond (Nat.beq pc 1028) (some (.iload_n 3, 1029, 0, 0, 0, 0)) none)))) (cond (Nat.ble 1018 pc) (cond (Nat.ble 1025 pc) (cond (Nat.ble 1026 pc) (cond (Nat.ble 1027 pc) (cond (Nat.beq pc 1027) (some (.aload_n 0, 1028, 0, 0, 0, 0)) none) (cond (Nat.beq pc 1026) (some (.aload_n 1, 1027, 0, 0, 0, 0)) none)) (cond (Nat.beq pc 1025) (some (.ireturn, 1026, 0, 0, 0, 0)) none)) (cond (Nat.ble 1021 pc) (cond (Nat.ble 1024 pc) (cond (Nat.beq pc 1024) (some (.iconst 0, 1025, 0, 0, 0, 0)) none) (cond (Nat.beq pc 1021) (some (.if_icmp .eq 123, 1024, 1144, 0, 0, 0)) none)) (cond (Nat.beq pc 1018) (some (.invokevirtual 133, 1021, 192, 0, 1376, 0)) none))) (cond (Nat.ble 1015 pc) (cond (Nat.ble 1016 pc) (cond (Nat.ble 1017 pc) (cond (Nat.beq pc 1017) (some (.iaload, 1018, 0, 0, 0, 0)) none) (cond (Nat.beq pc 1016) (some (.iadd, 1017, 0, 0, 0, 0)) none)) (cond (Nat.beq pc 1015) (some (.iconst 1, 1016, 0, 0, 0, 0)) none)) (cond (Nat.ble 1014 pc) (cond (Nat.beq pc 1014) (some (.iload_n 3, 1015, 0, 0, 0, 0)) none) (cond (Nat.beq pc 1013) (some (.aload_n 0, 1014, 0, 0, 0, 0)) none))))))) (cond (Nat.ble 957 pc) (cond (Nat.ble 983 pc) (cond (Nat.ble 995 pc) (cond (Nat.ble 1005 pc) (cond (Nat.ble 1008 pc) (cond (Nat.ble 1009 pc) (cond (Nat.ble 1012 pc) (cond (Nat.beq pc 1012) (some (.aload_n 2, 1013, 0, 0, 0, 0)) none) (cond (Nat.beq pc 1009) (some (.invokevirtual 130, 1012, 113, 0, 843, 0)) none)) (cond (Nat.beq pc 1008) (some (.iaload, 1009, 0, 0, 0, 0)) none)) (cond (Nat.ble 1006 pc) (cond (Nat.ble 1007 pc) (cond (Nat.beq pc 1007) (some (.iadd, 1008, 0, 0, 0, 0)) none) (cond (Nat.beq pc 1006) (some (.iconst 1, 1007, 0, 0, 0, 0)) none)) (cond (Nat.beq pc 1005) (some (.iload_n 3, 1006, 0, 0, 0, 0)) none))) (cond (Nat.ble 1002 pc) (cond (Nat.ble 1003 pc) (cond (Nat.ble 1004 pc) (cond (Nat.beq pc 1004) (some (.aload_n 0, 1005, 0, 0, 0, 0)) none) (cond (Nat.beq pc 1003) (some (.aload_n 1, 1004, 0, 0, 0, 0)) none)) (cond (Nat.beq pc 1002) (some (.ireturn, 1003, 0, 0, 0, 0)) none)) (cond (Nat.ble 998 pc) (cond (Nat.ble 1001 pc) (cond (Nat.beq pc 1001) (some (.iconst 0, 1002, 0, 0, 0, 0)) none) (cond (Nat.beq pc 998) (some (.if_icmp .eq 146, 1001, 1144, 0, 0, 0)) none)) (cond (Nat.beq pc 995) (some (.invokevirtual 129, 998, 191, 0, 1372, 0)) none)))) (cond (Nat.ble 989 pc) (cond (Nat.ble 992 pc) (cond (Nat.ble 993 pc) (cond (Nat.ble 994 pc) (cond (Nat.beq pc 994) (some (.iaload, 995, 0, 0, 0, 0)) none) (cond (Nat.beq pc 993) (some (.iadd, 994, 0, 0, 0, 0)) none)) (cond (Nat.beq pc 992) (some (.iconst 4, 993, 0, 0, 0, 0)) none)) (cond (Nat.ble 990 pc) (cond (Nat.ble 991 pc) (cond (Nat.beq pc 991) (some (.iload_n 3, 992, 0, 0, 0, 0)) none) (cond (Nat.beq pc 990) (some (.aload_n 0, 991, 0, 0, 0, 0)) none)) (cond (Nat.beq pc 989) (some (.iaload, 990, 0, 0, 0, 0)) none))) (cond (Nat.ble 986 pc) (cond (Nat.ble 987 pc) (cond (Nat.ble 988 pc) (cond (Nat.beq pc 988) (some (.iadd, 989, 0, 0, 0, 0)) none) (cond (Nat.beq pc 987) (some (.iconst 3, 988, 0, 0, 0, 0)) none)) (cond (Nat.beq pc 986) (some (.iload_n 3, 987, 0, 0, 0, 0)) none)) (cond (Nat.ble 984 pc) (cond (Nat.ble 985 pc) (cond (Nat.beq pc 985) (some (.aload_n 0, 986, 0, 0, 0, 0)) none) (cond (Nat.beq pc 984) (some (.iaload, 985, 0, 0, 0, 0)) none)) (cond (Nat.beq pc 983) (some (.iadd, 984, 0, 0, 0, 0)) none))))) (cond (Nat.ble 969 pc) (cond (Nat.ble 977 pc) (cond (Nat.ble 980 pc) (cond (Nat.ble 981 pc) (cond (Nat.ble 982 pc) (cond (Nat.beq pc 982) (some (.iconst 2, 983, 0, 0, 0, 0)) none) (cond (Nat.beq pc 981) (some (.iload_n 3, 982, 0, 0, 0, 0)) none)) (cond (Nat.beq pc 980) (some (.aload_n 0, 981, 0, 0, 0, 0)) none)) (cond (Nat.ble 978 pc) (cond (Nat.ble 979 pc) (cond (Nat.beq pc 979) (some (.iaload, 980, 0, 0, 0, 0)) none) (cond (Nat.beq pc 978) (some (.iadd, 979, 0, 0, 0, 0)) none)) (cond (Nat.beq pc 977) (some (.iconst 1, 978, 0, 0, 0, 0)) none))) (cond (Nat.ble 974 pc) (cond (Nat.ble 975 pc) (cond (Nat.ble 976 pc) (cond (Nat.beq pc 976) (some (.iload_n 3, 977, 0, 0, 0, 0)) none) (cond (Nat.beq pc 975) (some (.aload_n 0, 976, 0, 0, 0, 0)) none)) (cond (Nat.beq pc 974) (some (.aload_n 2, 975, 0, 0, 0, 0)) none)) (cond (Nat.ble 970 pc) (cond (Nat.ble 971 pc) (cond (Nat.beq pc 971) (some (.invokevirtual 125, 974, 111, 0, 835, 0)) none) (cond (Nat.beq pc 970) (some (.iaload, 971, 0, 0, 0, 0)) none)) (cond (Nat.beq pc 969) (some (.iadd, 970, 0, 0, 0, 0)) none)))) (cond (Nat.ble 963 pc) (cond (Nat.ble 966 pc) (cond (Nat.ble 967 pc) (cond (Nat.ble 968 pc) (cond (Nat.beq pc 968) (some (.iconst 4, 969, 0, 0, 0, 0)) none) (cond (Nat.beq pc 967) (some (.iload_n 3, 968, 0, 0, 0, 0)) none)) (cond (Nat.beq pc 966) (some (.aload_n 0, 967, 0, 0, 0, 0)) none)) (cond (Nat.ble 964 pc) (cond (Nat.ble 965 pc) (cond (Nat.beq pc 965) (some (.iaload, 966, 0, 0, 0, 0)) none) (cond (Nat.beq pc 964) (some (.iadd, 965, 0, 0, 0, 0)) none)) (cond (Nat.beq pc 963) (some (.iconst 3, 964, 0, 0, 0, 0)) none))) (cond (Nat.ble 960 pc) (cond (Nat.ble 961 pc) (cond (Nat.ble 962 pc) (cond (Nat.beq pc 962) (some (.iload_n 3, 963, 0, 0, 0, 0)) none) (cond (Nat.beq pc 961) (some (.aload_n 0, 962, 0, 0, 0, 0)) none)) (cond (Nat.beq pc 960) (some (.iaload, 961, 0, 0, 0, 0)) none)) (cond (Nat.ble 958 pc) (cond (Nat.ble 959 pc) (cond (Nat.beq pc 959) (some (.iadd, 960, 0, 0, 0, 0)) none) (cond (Nat.beq pc 958) (some (.iconst 2, 959, 0, 0, 0, 0)) none)) (cond (Nat.beq pc 957) (some (.iload_n 3, 958, 0, 0, 0, 0)) none)))))) (cond (Nat.ble 927 pc) (cond (Nat.ble 941 pc) (cond (Nat.ble 951 pc) (cond (Nat.ble 954 pc) (cond (Nat.ble 955 pc) (cond (Nat.ble 956 pc) (cond (Nat.beq pc 956) (some (.aload_n 0, 957, 0, 0, 0, 0)) none) (cond (Nat.beq pc 955) (some (.iaload, 956, 0, 0, 0, 0)) none)) (cond (Nat.beq pc 954) (some (.iadd, 955, 0, 0, 0, 0)) none)) (cond (Nat.ble 952 pc) (cond (Nat.ble 953 pc) (cond (Nat.beq pc 953) (some (.iconst 1, 954, 0, 0, 0, 0)) none) (cond (Nat.beq pc 952) (some (.iload_n 3, 953, 0, 0, 0, 0)) none)) (cond (Nat.beq pc 951) (some (.aload_n 0, 952, 0, 0, 0, 0)) none))) (cond (Nat.ble 948 pc) (cond (Nat.ble 949 pc) (cond (Nat.ble 950 pc) (cond (Nat.beq pc 950) (some (.aload_n 1, 951, 0, 0, 0, 0)) none) (cond (Nat.beq pc 949) (some (.ireturn, 950, 0, 0, 0, 0)) none)) (cond (Nat.beq pc 948) (some (.iconst 0, 949, 0, 0, 0, 0)) none)) (cond (Nat.ble 942 pc) (cond (Nat.ble 945 pc) (cond (Nat.beq pc 945) (some (.if_icmp .eq 199, 948, 1144, 0, 0, 0)) none) (cond (Nat.beq pc 942) (some (.invokevirtual 124, 945, 190, 0, 1368, 0)) none)) (cond (Nat.beq pc 941) (some (.iaload, 942, 0, 0, 0, 0)) none)))) (cond (Nat.ble 935 pc) (cond (Nat.ble 938 pc) (cond (Nat.ble 939 pc) (cond (Nat.ble 940 pc) (cond (Nat.beq pc 940) (some (.iadd, 941, 0, 0, 0, 0)) none) (cond (Nat.beq pc 939) (some (.iconst 2, 940, 0, 0, 0, 0)) none)) (cond (Nat.beq pc 938) (some (.iload_n 3, 939, 0, 0, 0, 0)) none)) (cond (Nat.ble 936 pc) (cond (Nat.ble 937 pc) (cond (Nat.beq pc 937) (some (.aload_n 0, 938, 0, 0, 0, 0)) none) (cond (Nat.beq pc 936) (some (.iaload, 937, 0, 0, 0, 0)) none)) (cond (Nat.beq pc 935) (some (.iadd, 936, 0, 0, 0, 0)) none))) (cond (Nat.ble 932 pc) (cond (Nat.ble 933 pc) (cond (Nat.ble 934 pc) (cond (Nat.beq pc 934) (some (.iconst 1, 935, 0, 0, 0, 0)) none) (cond (Nat.beq pc 933) (some (.iload_n 3, 934, 0, 0, 0, 0)) none)) (cond (Nat.beq pc 932) (some (.aload_n 0, 933, 0, 0, 0, 0)) none)) (cond (Nat.ble 928 pc) (cond (Nat.ble 931 pc) (cond (Nat.beq pc 931) (some (.aload_n 2, 932, 0, 0, 0, 0)) none) (cond (Nat.beq pc 928) (some (.invokevirtual 121, 931, 110, 0, 830, 0)) none)) (cond (Nat.beq pc 927) (some (.iaload, 928, 0, 0, 0, 0)) none))))) (cond (Nat.ble 915 pc) (cond (Nat.ble 921 pc) (cond (Nat.ble 924 pc) (cond (Nat.ble 925 pc) (cond (Nat.ble 926 pc) (cond (Nat.beq pc 926) (some (.iadd, 927, 0, 0, 0, 0)) none) (cond (Nat.beq pc 925) (some (.iconst 2, 926, 0, 0, 0, 0)) none)) (cond (Nat.beq pc 924) (some (.iload_n 3, 925, 0, 0, 0, 0)) none)) (cond (Nat.ble 922 pc) (cond (Nat.ble 923 pc) (cond (Nat.beq pc 923) (some (.aload_n 0, 924, 0, 0, 0, 0)) none) (cond (Nat.beq pc 922) (some (.iaload, 923, 0, 0, 0, 0)) none)) (cond (Nat.beq pc 921) (some (.iadd, 922, 0, 0, 0, 0)) none))) (cond (Nat.ble 918 pc) (cond (Nat.ble 919 pc) (cond (Nat.ble 920 pc) (cond (Nat.beq pc 920) (some (.iconst 1, 921, 0, 0, 0, 0)) none) (cond (Nat.beq pc 919) (some (.iload_n 3, 920, 0, 0, 0, 0)) none)) (cond (Nat.beq pc 918) (some (.aload_n 0, 919, 0, 0, 0, 0)) none)) (cond (Nat.ble 916 pc) (cond (Nat.ble 917 pc) (cond (Nat.beq pc 917) (some (.aload_n 1, 918, 0, 0, 0, 0)) none) (cond (Nat.beq pc 916) (some (.ireturn, 917, 0, 0, 0, 0)) none)) (cond (Nat.beq pc 915) (some (.iconst 0, 916, 0, 0, 0, 0)) none)))) (cond (Nat.ble 905 pc) (cond (Nat.ble 908 pc) (cond (Nat.ble 909 pc) (cond (Nat.ble 912 pc) (cond (Nat.beq pc 912) (some (.if_icmp .eq 232, 915, 1144, 0, 0, 0)) none) (cond (Nat.beq pc 909) (some (.invokevirtual 120, 912, 189, 0, 1364, 0)) none)) (cond (Nat.beq pc 908) (some (.iaload, 909, 0, 0, 0, 0)) none)) (cond (Nat.ble 906 pc) (cond (Nat.ble 907 pc) (cond (Nat.beq pc 907) (some (.iadd, 908, 0, 0, 0, 0)) none) (cond (Nat.beq pc 906) (some (.iconst 1, 907, 0, 0, 0, 0)) none)) (cond (Nat.beq pc 905) (some (.iload_n 3, 906, 0, 0, 0, 0)) none))) (cond (Nat.ble 900 pc) (cond (Nat.ble 903 pc) (cond (Nat.ble 904 pc) (cond (Nat.beq pc 904) (some (.aload_n 0, 905, 0, 0, 0, 0)) none) (cond (Nat.beq pc 903) (some (.aload_n 2, 904, 0, 0, 0, 0)) none)) (cond (Nat.beq pc 900) (some (.invokevirtual 117, 903, 109, 0, 826, 0)) none)) (cond (Nat.ble 899 pc) (cond (Nat.beq pc 899) (some (.iaload, 900, 0, 0, 0, 0)) none) (cond (Nat.beq pc 898) (some (.iadd, 899, 0, 0, 0, 0)) none)))))))) (cond (Nat.ble 769 pc) (cond (Nat.ble 830 pc) (cond (Nat.ble 866 pc) (cond (Nat.ble 882 pc) (cond (Nat.ble 892 pc) (cond (Nat.ble 895 pc) (cond (Nat.ble 896 pc) (cond (Nat.ble 897 pc) (cond (Nat.beq pc 897) (some (.iconst 1, 898, 0, 0, 0, 0)) none) (cond (Nat.beq pc 896) (some (.iload_n 3, 897, 0, 0, 0, 0)) none)) (cond (Nat.beq pc 895) (some (.aload_n 0, 896, 0, 0, 0, 0)) none)) (cond (Nat.ble 893 pc) (cond (Nat.ble 894 pc) (cond (Nat.beq pc 894) (some (.aload_n 1, 895, 0, 0, 0, 0)) none) (cond (Nat.beq pc 893) (some (.ireturn, 894, 0, 0, 0, 0)) none)) (cond (Nat.beq pc 892) (some (.iconst 0, 893, 0, 0, 0, 0)) none))) (cond (Nat.ble 885 pc) (cond (Nat.ble 886 pc) (cond (Nat.ble 889 pc) (cond (Nat.beq pc 889) (some (.if_icmp .eq 255, 892, 1144, 0, 0, 0)) none) (cond (Nat.beq pc 886) (some (.invokevirtual 116, 889, 188, 0, 1360, 0)) none)) (cond (Nat.beq pc 885) (some (.iaload, 886, 0, 0, 0, 0)) none)) (cond (Nat.ble 883 pc) (cond (Nat.ble 884 pc) (cond (Nat.beq pc 884) (some (.iadd, 885, 0, 0, 0, 0)) none) (cond (Nat.beq pc 883) (some (.iconst 1, 884, 0, 0, 0, 0)) none)) (cond (Nat.beq pc 882) (some (.iload_n 3, 883, 0, 0, 0, 0)) none)))) (cond (Nat.ble 874 pc) (cond (Nat.ble 877 pc) (cond (Nat.ble 880 pc) (cond (Nat.ble 881 pc) (cond (Nat.beq pc 881) (some (.aload_n 0, 882, 0, 0, 0, 0)) none) (cond (Nat.beq pc 880) (some (.aload_n 2, 881, 0, 0, 0, 0)) none)) (cond (Nat.beq pc 877) (some (.invokevirtual 113, 880, 107, 0, 818, 0)) none)) (cond (Nat.ble 875 pc) (cond (Nat.ble 876 pc) (cond (Nat.beq pc 876) (some (.iaload, 877, 0, 0, 0, 0)) none) (cond (Nat.beq pc 875) (some (.iadd, 876, 0, 0, 0, 0)) none)) (cond (Nat.beq pc 874) (some (.iconst 1, 875, 0, 0, 0, 0)) none))) (cond (Nat.ble 871 pc) (cond (Nat.ble 872 pc) (cond (Nat.ble 873 pc) (cond (Nat.beq pc 873) (some (.iload_n 3, 874, 0, 0, 0, 0)) none) (cond (Nat.beq pc 872) (some (.aload_n 0, 873, 0, 0, 0, 0)) none)) (cond (Nat.beq pc 871) (some (.aload_n 1, 872, 0, 0, 0, 0)) none)) (cond (Nat.ble 869 pc) (cond (Nat.ble 870 pc) (cond (Nat.beq pc 870) (some (.ireturn, 871, 0, 0, 0, 0)) none) (cond (Nat.beq pc 869) (some (.iconst 0, 870, 0, 0, 0, 0)) none)) (cond (Nat.beq pc 866) (some (.if_icmp .eq 278, 869, 1144, 0, 0, 0)) none))))) (cond (Nat.ble 850 pc) (cond (Nat.ble 858 pc) (cond (Nat.ble 861 pc) (cond (Nat.ble 862 pc) (cond (Nat.ble 863 pc) (cond (Nat.beq pc 863) (some (.invokevirtual 112, 866, 187, 0, 1356, 0)) none) (cond (Nat.beq pc 862) (some (.iaload, 863, 0, 0, 0, 0)) none)) (cond (Nat.beq pc 861) (some (.iadd, 862, 0, 0, 0, 0)) none)) (cond (Nat.ble 859 pc) (cond (Nat.ble 860 pc) (cond (Nat.beq pc 860) (some (.iconst 1, 861, 0, 0, 0, 0)) none) (cond (Nat.beq pc 859) (some (.iload_n 3, 860, 0, 0, 0, 0)) none)) (cond (Nat.beq pc 858) (some (.aload_n 0, 859, 0, 0, 0, 0)) none))) (cond (Nat.ble 853 pc) (cond (Nat.ble 854 pc) (cond (Nat.ble 857 pc) (cond (Nat.beq pc 857) (some (.aload_n 2, 858, 0, 0, 0, 0)) none) (cond (Nat.beq pc 854) (some (.invokevirtual 109, 857, 106, 0, 814, 0)) none)) (cond (Nat.beq pc 853) (some (.iaload, 854, 0, 0, 0, 0)) none)) (cond (Nat.ble 851 pc) (cond (Nat.ble 852 pc) (cond (Nat.beq pc 852) (some (.iadd, 853, 0, 0, 0, 0)) none) (cond (Nat.beq pc 851) (some (.iconst 1, 852, 0, 0, 0, 0)) none)) (cond (Nat.beq pc 850) (some (.iload_n 3, 851, 0, 0, 0, 0)) none)))) (cond (Nat.ble 840 pc) (cond (Nat.ble 847 pc) (cond (Nat.ble 848 pc) (cond (Nat.ble 849 pc) (cond (Nat.beq pc 849) (some (.aload_n 0, 850, 0, 0, 0, 0)) none) (cond (Nat.beq pc 848) (some (.aload_n 1, 849, 0, 0, 0, 0)) none)) (cond (Nat.beq pc 847) (some (.ireturn, 848, 0, 0, 0, 0)) none)) (cond (Nat.ble 843 pc) (cond (Nat.ble 846 pc) (cond (Nat.beq pc 846) (some (.iconst 0, 847, 0, 0, 0, 0)) none) (cond (Nat.beq pc 843) (some (.if_icmp .eq 301, 846, 1144, 0, 0, 0)) none)) (cond (Nat.beq pc 840) (some (.invokevirtual 108, 843, 185, 0, 1348, 0)) none))) (cond (Nat.ble 835 pc) (cond (Nat.ble 836 pc) (cond (Nat.ble 839 pc) (cond (Nat.beq pc 839) (some (.iconst 0, 840, 0, 0, 0, 0)) none) (cond (Nat.beq pc 836) (some (.goto 4, 839, 840, 0, 0, 0)) none)) (cond (Nat.beq pc 835) (some (.iconst 1, 836, 0, 0, 0, 0)) none)) (cond (Nat.ble 831 pc) (cond (Nat.ble 832 pc) (cond (Nat.beq pc 832) (some (.ifCond .eq 7, 835, 839, 0, 0, 0)) none) (cond (Nat.beq pc 831) (some (.iaload, 832, 0, 0, 0, 0)) none)) (cond (Nat.beq pc 830) (some (.iadd, 831, 0, 0, 0, 0)) none)))))) (cond (Nat.ble 800 pc) (cond (Nat.ble 818 pc) (cond (Nat.ble 824 pc) (cond (Nat.ble 827 pc) (cond (Nat.ble 828 pc) (cond (Nat.ble 829 pc) (cond (Nat.beq pc 829) (some (.iconst 3, 830, 0, 0, 0, 0)) none) (cond (Nat.beq pc 828) (some (.iload_n 3, 829, 0, 0, 0, 0)) none)) (cond (Nat.beq pc 827) (some (.aload_n 0, 828, 0, 0, 0, 0)) none)) (cond (Nat.ble 825 pc) (cond (Nat.ble 826 pc) (cond (Nat.beq pc 826) (some (.iaload, 827, 0, 0, 0, 0)) none) (cond (Nat.beq pc 825) (some (.iadd, 826, 0, 0, 0, 0)) none)) (cond (Nat.beq pc 824) (some (.iconst 2, 825, 0, 0, 0, 0)) none))) (cond (Nat.ble 821 pc) (cond (Nat.ble 822 pc) (cond (Nat.ble 823 pc) (cond (Nat.beq pc 823) (some (.iload_n 3, 824, 0, 0, 0, 0)) none) (cond (Nat.beq pc 822) (some (.aload_n 0, 823, 0, 0, 0, 0)) none)) (cond (Nat.beq pc 821) (some (.iaload, 822, 0, 0, 0, 0)) none)) (cond (Nat.ble 819 pc) (cond (Nat.ble 820 pc) (cond (Nat.beq pc 820) (some (.iadd, 821, 0, 0, 0, 0)) none) (cond (Nat.beq pc 819) (some (.iconst 1, 820, 0, 0, 0, 0)) none)) (cond (Nat.beq pc 818) (some (.iload_n 3, 819, 0, 0, 0, 0)) none)))) (cond (Nat.ble 808 pc) (cond (Nat.ble 813 pc) (cond (Nat.ble 816 pc) (cond (Nat.ble 817 pc) (cond (Nat.beq pc 817) (some (.aload_n 0, 818, 0, 0, 0, 0)) none) (cond (Nat.beq pc 816) (some (.aload_n 2, 817, 0, 0, 0, 0)) none)) (cond (Nat.beq pc 813) (some (.invokevirtual 104, 816, 103, 0, 802, 0)) none)) (cond (Nat.ble 809 pc) (cond (Nat.ble 812 pc) (cond (Nat.beq pc 812) (some (.iconst 0, 813, 0, 0, 0, 0)) none) (cond (Nat.beq pc 809) (some (.goto 4, 812, 813, 0, 0, 0)) none)) (cond (Nat.beq pc 808) (some (.iconst 1, 809, 0, 0, 0, 0)) none))) (cond (Nat.ble 803 pc) (cond (Nat.ble 804 pc) (cond (Nat.ble 805 pc) (cond (Nat.beq pc 805) (some (.ifCond .eq 7, 808, 812, 0, 0, 0)) none) (cond (Nat.beq pc 804) (some (.iaload, 805, 0, 0, 0, 0)) none)) (cond (Nat.beq pc 803) (some (.iadd, 804, 0, 0, 0, 0)) none)) (cond (Nat.ble 801 pc) (cond (Nat.ble 802 pc) (cond (Nat.beq pc 802) (some (.iconst 3, 803, 0, 0, 0, 0)) none) (cond (Nat.beq pc 801) (some (.iload_n 3, 802, 0, 0, 0, 0)) none)) (cond (Nat.beq pc 800) (some (.aload_n 0, 801, 0, 0, 0, 0)) none))))) (cond (Nat.ble 788 pc) (cond (Nat.ble 794 pc) (cond (Nat.ble 797 pc) (cond (Nat.ble 798 pc) (cond (Nat.ble 799 pc) (cond (Nat.beq pc 799) (some (.iaload, 800, 0, 0, 0, 0)) none) (cond (Nat.beq pc 798) (some (.iadd, 799, 0, 0, 0, 0)) none)) (cond (Nat.beq pc 797) (some (.iconst 2, 798, 0, 0, 0, 0)) none)) (cond (Nat.ble 795 pc) (cond (Nat.ble 796 pc) (cond (Nat.beq pc 796) (some (.iload_n 3, 797, 0, 0, 0, 0)) none) (cond (Nat.beq pc 795) (some (.aload_n 0, 796, 0, 0, 0, 0)) none)) (cond (Nat.beq pc 794) (some (.iaload, 795, 0, 0, 0, 0)) none))) (cond (Nat.ble 791 pc) (cond (Nat.ble 792 pc) (cond (Nat.ble 793 pc) (cond (Nat.beq pc 793) (some (.iadd, 794, 0, 0, 0, 0)) none) (cond (Nat.beq pc 792) (some (.iconst 1, 793, 0, 0, 0, 0)) none)) (cond (Nat.beq pc 791) (some (.iload_n 3, 792, 0, 0, 0, 0)) none)) (cond (Nat.ble 789 pc) (cond (Nat.ble 790 pc) (cond (Nat.beq pc 790) (some (.aload_n 0, 791, 0, 0, 0, 0)) none) (cond (Nat.beq pc 789) (some (.aload_n 1, 790, 0, 0, 0, 0)) none)) (cond (Nat.beq pc 788) (some (.ireturn, 789, 0, 0, 0, 0)) none)))) (cond (Nat.ble 776 pc) (cond (Nat.ble 781 pc) (cond (Nat.ble 784 pc) (cond (Nat.ble 787 pc) (cond (Nat.beq pc 787) (some (.iconst 0, 788, 0, 0, 0, 0)) none) (cond (Nat.beq pc 784) (some (.if_icmp .eq 360, 787, 1144, 0, 0, 0)) none)) (cond (Nat.beq pc 781) (some (.invokevirtual 103, 784, 184, 0, 1344, 0)) none)) (cond (Nat.ble 777 pc) (cond (Nat.ble 780 pc) (cond (Nat.beq pc 780) (some (.iconst 0, 781, 0, 0, 0, 0)) none) (cond (Nat.beq pc 777) (some (.goto 4, 780, 781, 0, 0, 0)) none)) (cond (Nat.beq pc 776) (some (.iconst 1, 777, 0, 0, 0, 0)) none))) (cond (Nat.ble 771 pc) (cond (Nat.ble 772 pc) (cond (Nat.ble 773 pc) (cond (Nat.beq pc 773) (some (.ifCond .eq 7, 776, 780, 0, 0, 0)) none) (cond (Nat.beq pc 772) (some (.iaload, 773, 0, 0, 0, 0)) none)) (cond (Nat.beq pc 771) (some (.iadd, 772, 0, 0, 0, 0)) none)) (cond (Nat.ble 770 pc) (cond (Nat.beq pc 770) (some (.iconst 2, 771, 0, 0, 0, 0)) none) (cond (Nat.beq pc 769) (some (.iload_n 3, 770, 0, 0, 0, 0)) none))))))) (cond (Nat.ble 704 pc) (cond (Nat.ble 739 pc) (cond (Nat.ble 751 pc) (cond (Nat.ble 763 pc) (cond (Nat.ble 766 pc) (cond (Nat.ble 767 pc) (cond (Nat.ble 768 pc) (cond (Nat.beq pc 768) (some (.aload_n 0, 769, 0, 0, 0, 0)) none) (cond (Nat.beq pc 767) (some (.iaload, 768, 0, 0, 0, 0)) none)) (cond (Nat.beq pc 766) (some (.iadd, 767, 0, 0, 0, 0)) none)) (cond (Nat.ble 764 pc) (cond (Nat.ble 765 pc) (cond (Nat.beq pc 765) (some (.iconst 1, 766, 0, 0, 0, 0)) none) (cond (Nat.beq pc 764) (some (.iload_n 3, 765, 0, 0, 0, 0)) none)) (cond (Nat.beq pc 763) (some (.aload_n 0, 764, 0, 0, 0, 0)) none))) (cond (Nat.ble 758 pc) (cond (Nat.ble 759 pc) (cond (Nat.ble 762 pc) (cond (Nat.beq pc 762) (some (.aload_n 2, 763, 0, 0, 0, 0)) none) (cond (Nat.beq pc 759) (some (.invokevirtual 100, 762, 101, 0, 794, 0)) none)) (cond (Nat.beq pc 758) (some (.iconst 0, 759, 0, 0, 0, 0)) none)) (cond (Nat.ble 754 pc) (cond (Nat.ble 755 pc) (cond (Nat.beq pc 755) (some (.goto 4, 758, 759, 0, 0, 0)) none) (cond (Nat.beq pc 754) (some (.iconst 1, 755, 0, 0, 0, 0)) none)) (cond (Nat.beq pc 751) (some (.ifCond .eq 7, 754, 758, 0, 0, 0)) none)))) (cond (Nat.ble 745 pc) (cond (Nat.ble 748 pc) (cond (Nat.ble 749 pc) (cond (Nat.ble 750 pc) (cond (Nat.beq pc 750) (some (.iaload, 751, 0, 0, 0, 0)) none) (cond (Nat.beq pc 749) (some (.iadd, 750, 0, 0, 0, 0)) none)) (cond (Nat.beq pc 748) (some (.iconst 2, 749, 0, 0, 0, 0)) none)) (cond (Nat.ble 746 pc) (cond (Nat.ble 747 pc) (cond (Nat.beq pc 747) (some (.iload_n 3, 748, 0, 0, 0, 0)) none) (cond (Nat.beq pc 746) (some (.aload_n 0, 747, 0, 0, 0, 0)) none)) (cond (Nat.beq pc 745) (some (.iaload, 746, 0, 0, 0, 0)) none))) (cond (Nat.ble 742 pc) (cond (Nat.ble 743 pc) (cond (Nat.ble 744 pc) (cond (Nat.beq pc 744) (some (.iadd, 745, 0, 0, 0, 0)) none) (cond (Nat.beq pc 743) (some (.iconst 1, 744, 0, 0, 0, 0)) none)) (cond (Nat.beq pc 742) (some (.iload_n 3, 743, 0, 0, 0, 0)) none)) (cond (Nat.ble 740 pc) (cond (Nat.ble 741 pc) (cond (Nat.beq pc 741) (some (.aload_n 0, 742, 0, 0, 0, 0)) none) (cond (Nat.beq pc 740) (some (.aload_n 1, 741, 0, 0, 0, 0)) none)) (cond (Nat.beq pc 739) (some (.ireturn, 740, 0, 0, 0, 0)) none))))) (cond (Nat.ble 717 pc) (cond (Nat.ble 727 pc) (cond (Nat.ble 732 pc) (cond (Nat.ble 735 pc) (cond (Nat.ble 738 pc) (cond (Nat.beq pc 738) (some (.iconst 0, 739, 0, 0, 0, 0)) none) (cond (Nat.beq pc 735) (some (.if_icmp .eq 409, 738, 1144, 0, 0, 0)) none)) (cond (Nat.beq pc 732) (some (.invokevirtual 99, 735, 183, 0, 1340, 0)) none)) (cond (Nat.ble 728 pc) (cond (Nat.ble 731 pc) (cond (Nat.beq pc 731) (some (.aload_n 2, 732, 0, 0, 0, 0)) none) (cond (Nat.beq pc 728) (some (.invokevirtual 96, 731, 100, 0, 790, 0)) none)) (cond (Nat.beq pc 727) (some (.aload_n 1, 728, 0, 0, 0, 0)) none))) (cond (Nat.ble 722 pc) (cond (Nat.ble 725 pc) (cond (Nat.ble 726 pc) (cond (Nat.beq pc 726) (some (.ireturn, 727, 0, 0, 0, 0)) none) (cond (Nat.beq pc 725) (some (.iconst 0, 726, 0, 0, 0, 0)) none)) (cond (Nat.beq pc 722) (some (.if_icmp .eq 422, 725, 1144, 0, 0, 0)) none)) (cond (Nat.ble 718 pc) (cond (Nat.ble 719 pc) (cond (Nat.beq pc 719) (some (.invokevirtual 95, 722, 179, 0, 1324, 0)) none) (cond (Nat.beq pc 718) (some (.iaload, 719, 0, 0, 0, 0)) none)) (cond (Nat.beq pc 717) (some (.iadd, 718, 0, 0, 0, 0)) none)))) (cond (Nat.ble 711 pc) (cond (Nat.ble 714 pc) (cond (Nat.ble 715 pc) (cond (Nat.ble 716 pc) (cond (Nat.beq pc 716) (some (.iconst 2, 717, 0, 0, 0, 0)) none) (cond (Nat.beq pc 715) (some (.iload_n 3, 716, 0, 0, 0, 0)) none)) (cond (Nat.beq pc 714) (some (.aload_n 0, 715, 0, 0, 0, 0)) none)) (cond (Nat.ble 712 pc) (cond (Nat.ble 713 pc) (cond (Nat.beq pc 713) (some (.iaload, 714, 0, 0, 0, 0)) none) (cond (Nat.beq pc 712) (some (.iadd, 713, 0, 0, 0, 0)) none)) (cond (Nat.beq pc 711) (some (.iconst 1, 712, 0, 0, 0, 0)) none))) (cond (Nat.ble 708 pc) (cond (Nat.ble 709 pc) (cond (Nat.ble 710 pc) (cond (Nat.beq pc 710) (some (.iload_n 3, 711, 0, 0, 0, 0)) none) (cond (Nat.beq pc 709) (some (.aload_n 0, 710, 0, 0, 0, 0)) none)) (cond (Nat.beq pc 708) (some (.aload_n 2, 709, 0, 0, 0, 0)) none)) (cond (Nat.ble 705 pc) (cond (Nat.beq pc 705) (some (.invokevirtual 92, 708, 89, 0, 743, 0)) none) (cond (Nat.beq pc 704) (some (.iaload, 705, 0, 0, 0, 0)) none)))))) (cond (Nat.ble 674 pc) (cond (Nat.ble 692 pc) (cond (Nat.ble 698 pc) (cond (Nat.ble 701 pc) (cond (Nat.ble 702 pc) (cond (Nat.ble 703 pc) (cond (Nat.beq pc 703) (some (.iadd, 704, 0, 0, 0, 0)) none) (cond (Nat.beq pc 702) (some (.iconst 2, 703, 0, 0, 0, 0)) none)) (cond (Nat.beq pc 701) (some (.iload_n 3, 702, 0, 0, 0, 0)) none)) (cond (Nat.ble 699 pc) (cond (Nat.ble 700 pc) (cond (Nat.beq pc 700) (some (.aload_n 0, 701, 0, 0, 0, 0)) none) (cond (Nat.beq pc 699) (some (.iaload, 700, 0, 0, 0, 0)) none)) (cond (Nat.beq pc 698) (some (.iadd, 699, 0, 0, 0, 0)) none))) (cond (Nat.ble 695 pc) (cond (Nat.ble 696 pc) (cond (Nat.ble 697 pc) (cond (Nat.beq pc 697) (some (.iconst 1, 698, 0, 0, 0, 0)) none) (cond (Nat.beq pc 696) (some (.iload_n 3, 697, 0, 0, 0, 0)) none)) (cond (Nat.beq pc 695) (some (.aload_n 0, 696, 0, 0, 0, 0)) none)) (cond (Nat.ble 693 pc) (cond (Nat.ble 694 pc) (cond (Nat.beq pc 694) (some (.aload_n 1, 695, 0, 0, 0, 0)) none) (cond (Nat.beq pc 693) (some (.ireturn, 694, 0, 0, 0, 0)) none)) (cond (Nat.beq pc 692) (some (.iconst 0, 693, 0, 0, 0, 0)) none)))) (cond (Nat.ble 682 pc) (cond (Nat.ble 685 pc) (cond (Nat.ble 686 pc) (cond (Nat.ble 689 pc) (cond (Nat.beq pc 689) (some (.if_icmp .eq 455, 692, 1144, 0, 0, 0)) none) (cond (Nat.beq pc 686) (some (.invokevirtual 91, 689, 178, 0, 1320, 0)) none)) (cond (Nat.beq pc 685) (some (.iaload, 686, 0, 0, 0, 0)) none)) (cond (Nat.ble 683 pc) (cond (Nat.ble 684 pc) (cond (Nat.beq pc 684) (some (.iadd, 685, 0, 0, 0, 0)) none) (cond (Nat.beq pc 683) (some (.iconst 1, 684, 0, 0, 0, 0)) none)) (cond (Nat.beq pc 682) (some (.iload_n 3, 683, 0, 0, 0, 0)) none))) (cond (Nat.ble 677 pc) (cond (Nat.ble 680 pc) (cond (Nat.ble 681 pc) (cond (Nat.beq pc 681) (some (.aload_n 0, 682, 0, 0, 0, 0)) none) (cond (Nat.beq pc 680) (some (.aload_n 2, 681, 0, 0, 0, 0)) none)) (cond (Nat.beq pc 677) (some (.invokevirtual 88, 680, 88, 0, 739, 0)) none)) (cond (Nat.ble 675 pc) (cond (Nat.ble 676 pc) (cond (Nat.beq pc 676) (some (.iaload, 677, 0, 0, 0, 0)) none) (cond (Nat.beq pc 675) (some (.iadd, 676, 0, 0, 0, 0)) none)) (cond (Nat.beq pc 674) (some (.iconst 1, 675, 0, 0, 0, 0)) none))))) (cond (Nat.ble 656 pc) (cond (Nat.ble 666 pc) (cond (Nat.ble 671 pc) (cond (Nat.ble 672 pc) (cond (Nat.ble 673 pc) (cond (Nat.beq pc 673) (some (.iload_n 3, 674, 0, 0, 0, 0)) none) (cond (Nat.beq pc 672) (some (.aload_n 0, 673, 0, 0, 0, 0)) none)) (cond (Nat.beq pc 671) (some (.aload_n 1, 672, 0, 0, 0, 0)) none)) (cond (Nat.ble 669 pc) (cond (Nat.ble 670 pc) (cond (Nat.beq pc 670) (some (.ireturn, 671, 0, 0, 0, 0)) none) (cond (Nat.beq pc 669) (some (.iconst 0, 670, 0, 0, 0, 0)) none)) (cond (Nat.beq pc 666) (some (.if_icmp .eq 478, 669, 1144, 0, 0, 0)) none))) (cond (Nat.ble 659 pc) (cond (Nat.ble 662 pc) (cond (Nat.ble 663 pc) (cond (Nat.beq pc 663) (some (.invokevirtual 87, 666, 176, 0, 1312, 0)) none) (cond (Nat.beq pc 662) (some (.aload_n 2, 663, 0, 0, 0, 0)) none)) (cond (Nat.beq pc 659) (some (.invokevirtual 84, 662, 87, 0, 735, 0)) none)) (cond (Nat.ble 657 pc) (cond (Nat.ble 658 pc) (cond (Nat.beq pc 658) (some (.aload_n 1, 659, 0, 0, 0, 0)) none) (cond (Nat.beq pc 657) (some (.ireturn, 658, 0, 0, 0, 0)) none)) (cond (Nat.beq pc 656) (some (.iconst 0, 657, 0, 0, 0, 0)) none)))) (cond (Nat.ble 646 pc) (cond (Nat.ble 649 pc) (cond (Nat.ble 650 pc) (cond (Nat.ble 653 pc) (cond (Nat.beq pc 653) (some (.if_icmp .eq 491, 656, 1144, 0, 0, 0)) none) (cond (Nat.beq pc 650) (some (.invokevirtual 83, 653, 175, 0, 1308, 0)) none)) (cond (Nat.beq pc 649) (some (.iaload, 650, 0, 0, 0, 0)) none)) (cond (Nat.ble 647 pc) (cond (Nat.ble 648 pc) (cond (Nat.beq pc 648) (some (.iadd, 649, 0, 0, 0, 0)) none) (cond (Nat.beq pc 647) (some (.iconst 1, 648, 0, 0, 0, 0)) none)) (cond (Nat.beq pc 646) (some (.iload_n 3, 647, 0, 0, 0, 0)) none))) (cond (Nat.ble 641 pc) (cond (Nat.ble 644 pc) (cond (Nat.ble 645 pc) (cond (Nat.beq pc 645) (some (.aload_n 0, 646, 0, 0, 0, 0)) none) (cond (Nat.beq pc 644) (some (.aload_n 2, 645, 0, 0, 0, 0)) none)) (cond (Nat.beq pc 641) (some (.invokevirtual 80, 644, 85, 0, 727, 0)) none)) (cond (Nat.ble 640 pc) (cond (Nat.beq pc 640) (some (.iaload, 641, 0, 0, 0, 0)) none) (cond (Nat.beq pc 639) (some (.iadd, 640, 0, 0, 0, 0)) none))))))))) (cond (Nat.ble 383 pc) (cond (Nat.ble 508 pc) (cond (Nat.ble 571 pc) (cond (Nat.ble 607 pc) (cond (Nat.ble 623 pc) (cond (Nat.ble 633 pc) (cond (Nat.ble 636 pc) (cond (Nat.ble 637 pc) (cond (Nat.ble 638 pc) (cond (Nat.beq pc 638) (some (.iconst 1, 639, 0, 0, 0, 0)) none) (cond (Nat.beq pc 637) (some (.iload_n 3, 638, 0, 0, 0, 0)) none)) (cond (Nat.beq pc 636) (some (.aload_n 0, 637, 0, 0, 0, 0)) none)) (cond (Nat.ble 634 pc) (cond (Nat.ble 635 pc) (cond (Nat.beq pc 635) (some (.aload_n 1, 636, 0, 0, 0, 0)) none) (cond (Nat.beq pc 634) (some (.ireturn, 635, 0, 0, 0, 0)) none)) (cond (Nat.beq pc 633) (some (.iconst 0, 634, 0, 0, 0, 0)) none))) (cond (Nat.ble 626 pc) (cond (Nat.ble 627 pc) (cond (Nat.ble 630 pc) (cond (Nat.beq pc 630) (some (.if_icmp .eq 514, 633, 1144, 0, 0, 0)) none) (cond (Nat.beq pc 627) (some (.invokevirtual 79, 630, 173, 0, 1301, 0)) none)) (cond (Nat.beq pc 626) (some (.iaload, 627, 0, 0, 0, 0)) none)) (cond (Nat.ble 624 pc) (cond (Nat.ble 625 pc) (cond (Nat.beq pc 625) (some (.iadd, 626, 0, 0, 0, 0)) none) (cond (Nat.beq pc 624) (some (.iconst 1, 625, 0, 0, 0, 0)) none)) (cond (Nat.beq pc 623) (some (.iload_n 3, 624, 0, 0, 0, 0)) none)))) (cond (Nat.ble 615 pc) (cond (Nat.ble 618 pc) (cond (Nat.ble 621 pc) (cond (Nat.ble 622 pc) (cond (Nat.beq pc 622) (some (.aload_n 0, 623, 0, 0, 0, 0)) none) (cond (Nat.beq pc 621) (some (.aload_n 2, 622, 0, 0, 0, 0)) none)) (cond (Nat.beq pc 618) (some (.invokevirtual 76, 621, 74, 0, 678, 0)) none)) (cond (Nat.ble 616 pc) (cond (Nat.ble 617 pc) (cond (Nat.beq pc 617) (some (.iaload, 618, 0, 0, 0, 0)) none) (cond (Nat.beq pc 616) (some (.iadd, 617, 0, 0, 0, 0)) none)) (cond (Nat.beq pc 615) (some (.iconst 1, 616, 0, 0, 0, 0)) none))) (cond (Nat.ble 612 pc) (cond (Nat.ble 613 pc) (cond (Nat.ble 614 pc) (cond (Nat.beq pc 614) (some (.iload_n 3, 615, 0, 0, 0, 0)) none) (cond (Nat.beq pc 613) (some (.aload_n 0, 614, 0, 0, 0, 0)) none)) (cond (Nat.beq pc 612) (some (.aload_n 1, 613, 0, 0, 0, 0)) none)) (cond (Nat.ble 610 pc) (cond (Nat.ble 611 pc) (cond (Nat.beq pc 611) (some (.ireturn, 612, 0, 0, 0, 0)) none) (cond (Nat.beq pc 610) (some (.iconst 0, 611, 0, 0, 0, 0)) none)) (cond (Nat.beq pc 607) (some (.if_icmp .eq 537, 610, 1144, 0, 0, 0)) none))))) (cond (Nat.ble 587 pc) (cond (Nat.ble 597 pc) (cond (Nat.ble 600 pc) (cond (Nat.ble 603 pc) (cond (Nat.ble 604 pc) (cond (Nat.beq pc 604) (some (.invokevirtual 75, 607, 172, 0, 1297, 0)) none) (cond (Nat.beq pc 603) (some (.aload_n 2, 604, 0, 0, 0, 0)) none)) (cond (Nat.beq pc 600) (some (.invokevirtual 72, 603, 72, 0, 670, 0)) none)) (cond (Nat.ble 598 pc) (cond (Nat.ble 599 pc) (cond (Nat.beq pc 599) (some (.aload_n 1, 600, 0, 0, 0, 0)) none) (cond (Nat.beq pc 598) (some (.ireturn, 599, 0, 0, 0, 0)) none)) (cond (Nat.beq pc 597) (some (.iconst 0, 598, 0, 0, 0, 0)) none))) (cond (Nat.ble 590 pc) (cond (Nat.ble 591 pc) (cond (Nat.ble 594 pc) (cond (Nat.beq pc 594) (some (.if_icmp .eq 550, 597, 1144, 0, 0, 0)) none) (cond (Nat.beq pc 591) (some (.invokevirtual 71, 594, 168, 0, 1281, 0)) none)) (cond (Nat.beq pc 590) (some (.iaload, 591, 0, 0, 0, 0)) none)) (cond (Nat.ble 588 pc) (cond (Nat.ble 589 pc) (cond (Nat.beq pc 589) (some (.iadd, 590, 0, 0, 0, 0)) none) (cond (Nat.beq pc 588) (some (.iconst 1, 589, 0, 0, 0, 0)) none)) (cond (Nat.beq pc 587) (some (.iload_n 3, 588, 0, 0, 0, 0)) none)))) (cond (Nat.ble 579 pc) (cond (Nat.ble 582 pc) (cond (Nat.ble 585 pc) (cond (Nat.ble 586 pc) (cond (Nat.beq pc 586) (some (.aload_n 0, 587, 0, 0, 0, 0)) none) (cond (Nat.beq pc 585) (some (.aload_n 2, 586, 0, 0, 0, 0)) none)) (cond (Nat.beq pc 582) (some (.invokevirtual 67, 585, 67, 0, 647, 0)) none)) (cond (Nat.ble 580 pc) (cond (Nat.ble 581 pc) (cond (Nat.beq pc 581) (some (.iaload, 582, 0, 0, 0, 0)) none) (cond (Nat.beq pc 580) (some (.iadd, 581, 0, 0, 0, 0)) none)) (cond (Nat.beq pc 579) (some (.iconst 1, 580, 0, 0, 0, 0)) none))) (cond (Nat.ble 576 pc) (cond (Nat.ble 577 pc) (cond (Nat.ble 578 pc) (cond (Nat.beq pc 578) (some (.iload_n 3, 579, 0, 0, 0, 0)) none) (cond (Nat.beq pc 577) (some (.aload_n 0, 578, 0, 0, 0, 0)) none)) (cond (Nat.beq pc 576) (some (.aload_n 1, 577, 0, 0, 0, 0)) none)) (cond (Nat.ble 574 pc) (cond (Nat.ble 575 pc) (cond (Nat.beq pc 575) (some (.ireturn, 576, 0, 0, 0, 0)) none) (cond (Nat.beq pc 574) (some (.iconst 0, 575, 0, 0, 0, 0)) none)) (cond (Nat.beq pc 571) (some (.if_icmp .eq 573, 574, 1144, 0, 0, 0)) none)))))) (cond (Nat.ble 535 pc) (cond (Nat.ble 553 pc) (cond (Nat.ble 559 pc) (cond (Nat.ble 564 pc) (cond (Nat.ble 567 pc) (cond (Nat.ble 568 pc) (cond (Nat.beq pc 568) (some (.invokevirtual 66, 571, 149, 0, 1198, 0)) none) (cond (Nat.beq pc 567) (some (.iconst 0, 568, 0, 0, 0, 0)) none)) (cond (Nat.beq pc 564) (some (.goto 4, 567, 568, 0, 0, 0)) none)) (cond (Nat.ble 560 pc) (cond (Nat.ble 563 pc) (cond (Nat.beq pc 563) (some (.iconst 1, 564, 0, 0, 0, 0)) none) (cond (Nat.beq pc 560) (some (.ifCond .eq 7, 563, 567, 0, 0, 0)) none)) (cond (Nat.beq pc 559) (some (.iaload, 560, 0, 0, 0, 0)) none))) (cond (Nat.ble 556 pc) (cond (Nat.ble 557 pc) (cond (Nat.ble 558 pc) (cond (Nat.beq pc 558) (some (.iadd, 559, 0, 0, 0, 0)) none) (cond (Nat.beq pc 557) (some (.iconst 2, 558, 0, 0, 0, 0)) none)) (cond (Nat.beq pc 556) (some (.iload_n 3, 557, 0, 0, 0, 0)) none)) (cond (Nat.ble 554 pc) (cond (Nat.ble 555 pc) (cond (Nat.beq pc 555) (some (.aload_n 0, 556, 0, 0, 0, 0)) none) (cond (Nat.beq pc 554) (some (.iaload, 555, 0, 0, 0, 0)) none)) (cond (Nat.beq pc 553) (some (.iadd, 554, 0, 0, 0, 0)) none)))) (cond (Nat.ble 545 pc) (cond (Nat.ble 550 pc) (cond (Nat.ble 551 pc) (cond (Nat.ble 552 pc) (cond (Nat.beq pc 552) (some (.iconst 1, 553, 0, 0, 0, 0)) none) (cond (Nat.beq pc 551) (some (.iload_n 3, 552, 0, 0, 0, 0)) none)) (cond (Nat.beq pc 550) (some (.aload_n 0, 551, 0, 0, 0, 0)) none)) (cond (Nat.ble 546 pc) (cond (Nat.ble 549 pc) (cond (Nat.beq pc 549) (some (.aload_n 2, 550, 0, 0, 0, 0)) none) (cond (Nat.beq pc 546) (some (.invokevirtual 62, 549, 66, 0, 642, 0)) none)) (cond (Nat.beq pc 545) (some (.iconst 0, 546, 0, 0, 0, 0)) none))) (cond (Nat.ble 538 pc) (cond (Nat.ble 541 pc) (cond (Nat.ble 542 pc) (cond (Nat.beq pc 542) (some (.goto 4, 545, 546, 0, 0, 0)) none) (cond (Nat.beq pc 541) (some (.iconst 1, 542, 0, 0, 0, 0)) none)) (cond (Nat.beq pc 538) (some (.ifCond .eq 7, 541, 545, 0, 0, 0)) none)) (cond (Nat.ble 536 pc) (cond (Nat.ble 537 pc) (cond (Nat.beq pc 537) (some (.iaload, 538, 0, 0, 0, 0)) none) (cond (Nat.beq pc 536) (some (.iadd, 537, 0, 0, 0, 0)) none)) (cond (Nat.beq pc 535) (some (.iconst 2, 536, 0, 0, 0, 0)) none))))) (cond (Nat.ble 519 pc) (cond (Nat.ble 529 pc) (cond (Nat.ble 532 pc) (cond (Nat.ble 533 pc) (cond (Nat.ble 534 pc) (cond (Nat.beq pc 534) (some (.iload_n 3, 535, 0, 0, 0, 0)) none) (cond (Nat.beq pc 533) (some (.aload_n 0, 534, 0, 0, 0, 0)) none)) (cond (Nat.beq pc 532) (some (.iaload, 533, 0, 0, 0, 0)) none)) (cond (Nat.ble 530 pc) (cond (Nat.ble 531 pc) (cond (Nat.beq pc 531) (some (.iadd, 532, 0, 0, 0, 0)) none) (cond (Nat.beq pc 530) (some (.iconst 1, 531, 0, 0, 0, 0)) none)) (cond (Nat.beq pc 529) (some (.iload_n 3, 530, 0, 0, 0, 0)) none))) (cond (Nat.ble 526 pc) (cond (Nat.ble 527 pc) (cond (Nat.ble 528 pc) (cond (Nat.beq pc 528) (some (.aload_n 0, 529, 0, 0, 0, 0)) none) (cond (Nat.beq pc 527) (some (.aload_n 1, 528, 0, 0, 0, 0)) none)) (cond (Nat.beq pc 526) (some (.ireturn, 527, 0, 0, 0, 0)) none)) (cond (Nat.ble 522 pc) (cond (Nat.ble 525 pc) (cond (Nat.beq pc 525) (some (.iconst 0, 526, 0, 0, 0, 0)) none) (cond (Nat.beq pc 522) (some (.if_icmp .eq 622, 525, 1144, 0, 0, 0)) none)) (cond (Nat.beq pc 519) (some (.invokevirtual 61, 522, 167, 0, 1277, 0)) none)))) (cond (Nat.ble 513 pc) (cond (Nat.ble 516 pc) (cond (Nat.ble 517 pc) (cond (Nat.ble 518 pc) (cond (Nat.beq pc 518) (some (.iaload, 519, 0, 0, 0, 0)) none) (cond (Nat.beq pc 517) (some (.iadd, 518, 0, 0, 0, 0)) none)) (cond (Nat.beq pc 516) (some (.iconst 2, 517, 0, 0, 0, 0)) none)) (cond (Nat.ble 514 pc) (cond (Nat.ble 515 pc) (cond (Nat.beq pc 515) (some (.iload_n 3, 516, 0, 0, 0, 0)) none) (cond (Nat.beq pc 514) (some (.aload_n 0, 515, 0, 0, 0, 0)) none)) (cond (Nat.beq pc 513) (some (.iaload, 514, 0, 0, 0, 0)) none))) (cond (Nat.ble 510 pc) (cond (Nat.ble 511 pc) (cond (Nat.ble 512 pc) (cond (Nat.beq pc 512) (some (.iadd, 513, 0, 0, 0, 0)) none) (cond (Nat.beq pc 511) (some (.iconst 1, 512, 0, 0, 0, 0)) none)) (cond (Nat.beq pc 510) (some (.iload_n 3, 511, 0, 0, 0, 0)) none)) (cond (Nat.ble 509 pc) (cond (Nat.beq pc 509) (some (.aload_n 0, 510, 0, 0, 0, 0)) none) (cond (Nat.beq pc 508) (some (.aload_n 2, 509, 0, 0, 0, 0)) none))))))) (cond (Nat.ble 446 pc) (cond (Nat.ble 478 pc) (cond (Nat.ble 494 pc) (cond (Nat.ble 500 pc) (cond (Nat.ble 503 pc) (cond (Nat.ble 504 pc) (cond (Nat.ble 505 pc) (cond (Nat.beq pc 505) (some (.invokevirtual 58, 508, 64, 0, 634, 0)) none) (cond (Nat.beq pc 504) (some (.iaload, 505, 0, 0, 0, 0)) none)) (cond (Nat.beq pc 503) (some (.iadd, 504, 0, 0, 0, 0)) none)) (cond (Nat.ble 501 pc) (cond (Nat.ble 502 pc) (cond (Nat.beq pc 502) (some (.iconst 2, 503, 0, 0, 0, 0)) none) (cond (Nat.beq pc 501) (some (.iload_n 3, 502, 0, 0, 0, 0)) none)) (cond (Nat.beq pc 500) (some (.aload_n 0, 501, 0, 0, 0, 0)) none))) (cond (Nat.ble 497 pc) (cond (Nat.ble 498 pc) (cond (Nat.ble 499 pc) (cond (Nat.beq pc 499) (some (.iaload, 500, 0, 0, 0, 0)) none) (cond (Nat.beq pc 498) (some (.iadd, 499, 0, 0, 0, 0)) none)) (cond (Nat.beq pc 497) (some (.iconst 1, 498, 0, 0, 0, 0)) none)) (cond (Nat.ble 495 pc) (cond (Nat.ble 496 pc) (cond (Nat.beq pc 496) (some (.iload_n 3, 497, 0, 0, 0, 0)) none) (cond (Nat.beq pc 495) (some (.aload_n 0, 496, 0, 0, 0, 0)) none)) (cond (Nat.beq pc 494) (some (.aload_n 1, 495, 0, 0, 0, 0)) none)))) (cond (Nat.ble 484 pc) (cond (Nat.ble 489 pc) (cond (Nat.ble 492 pc) (cond (Nat.ble 493 pc) (cond (Nat.beq pc 493) (some (.ireturn, 494, 0, 0, 0, 0)) none) (cond (Nat.beq pc 492) (some (.iconst 0, 493, 0, 0, 0, 0)) none)) (cond (Nat.beq pc 489) (some (.if_icmp .eq 655, 492, 1144, 0, 0, 0)) none)) (cond (Nat.ble 485 pc) (cond (Nat.ble 486 pc) (cond (Nat.beq pc 486) (some (.invokevirtual 57, 489, 166, 0, 1273, 0)) none) (cond (Nat.beq pc 485) (some (.iaload, 486, 0, 0, 0, 0)) none)) (cond (Nat.beq pc 484) (some (.iadd, 485, 0, 0, 0, 0)) none))) (cond (Nat.ble 481 pc) (cond (Nat.ble 482 pc) (cond (Nat.ble 483 pc) (cond (Nat.beq pc 483) (some (.iconst 2, 484, 0, 0, 0, 0)) none) (cond (Nat.beq pc 482) (some (.iload_n 3, 483, 0, 0, 0, 0)) none)) (cond (Nat.beq pc 481) (some (.aload_n 0, 482, 0, 0, 0, 0)) none)) (cond (Nat.ble 479 pc) (cond (Nat.ble 480 pc) (cond (Nat.beq pc 480) (some (.iaload, 481, 0, 0, 0, 0)) none) (cond (Nat.beq pc 479) (some (.iadd, 480, 0, 0, 0, 0)) none)) (cond (Nat.beq pc 478) (some (.iconst 1, 479, 0, 0, 0, 0)) none))))) (cond (Nat.ble 464 pc) (cond (Nat.ble 470 pc) (cond (Nat.ble 475 pc) (cond (Nat.ble 476 pc) (cond (Nat.ble 477 pc) (cond (Nat.beq pc 477) (some (.iload_n 3, 478, 0, 0, 0, 0)) none) (cond (Nat.beq pc 476) (some (.aload_n 0, 477, 0, 0, 0, 0)) none)) (cond (Nat.beq pc 475) (some (.aload_n 2, 476, 0, 0, 0, 0)) none)) (cond (Nat.ble 471 pc) (cond (Nat.ble 472 pc) (cond (Nat.beq pc 472) (some (.invokevirtual 54, 475, 62, 0, 626, 0)) none) (cond (Nat.beq pc 471) (some (.iaload, 472, 0, 0, 0, 0)) none)) (cond (Nat.beq pc 470) (some (.iadd, 471, 0, 0, 0, 0)) none))) (cond (Nat.ble 467 pc) (cond (Nat.ble 468 pc) (cond (Nat.ble 469 pc) (cond (Nat.beq pc 469) (some (.iconst 2, 470, 0, 0, 0, 0)) none) (cond (Nat.beq pc 468) (some (.iload_n 3, 469, 0, 0, 0, 0)) none)) (cond (Nat.beq pc 467) (some (.aload_n 0, 468, 0, 0, 0, 0)) none)) (cond (Nat.ble 465 pc) (cond (Nat.ble 466 pc) (cond (Nat.beq pc 466) (some (.iaload, 467, 0, 0, 0, 0)) none) (cond (Nat.beq pc 465) (some (.iadd, 466, 0, 0, 0, 0)) none)) (cond (Nat.beq pc 464) (some (.iconst 1, 465, 0, 0, 0, 0)) none)))) (cond (Nat.ble 456 pc) (cond (Nat.ble 461 pc) (cond (Nat.ble 462 pc) (cond (Nat.ble 463 pc) (cond (Nat.beq pc 463) (some (.iload_n 3, 464, 0, 0, 0, 0)) none) (cond (Nat.beq pc 462) (some (.aload_n 0, 463, 0, 0, 0, 0)) none)) (cond (Nat.beq pc 461) (some (.aload_n 1, 462, 0, 0, 0, 0)) none)) (cond (Nat.ble 459 pc) (cond (Nat.ble 460 pc) (cond (Nat.beq pc 460) (some (.ireturn, 461, 0, 0, 0, 0)) none) (cond (Nat.beq pc 459) (some (.iconst 0, 460, 0, 0, 0, 0)) none)) (cond (Nat.beq pc 456) (some (.if_icmp .eq 688, 459, 1144, 0, 0, 0)) none))) (cond (Nat.ble 449 pc) (cond (Nat.ble 452 pc) (cond (Nat.ble 453 pc) (cond (Nat.beq pc 453) (some (.invokevirtual 53, 456, 165, 0, 1269, 0)) none) (cond (Nat.beq pc 452) (some (.aload_n 2, 453, 0, 0, 0, 0)) none)) (cond (Nat.beq pc 449) (some (.invokevirtual 50, 452, 61, 0, 622, 0)) none)) (cond (Nat.ble 447 pc) (cond (Nat.ble 448 pc) (cond (Nat.beq pc 448) (some (.aload_n 1, 449, 0, 0, 0, 0)) none) (cond (Nat.beq pc 447) (some (.ireturn, 448, 0, 0, 0, 0)) none)) (cond (Nat.beq pc 446) (some (.iconst 0, 447, 0, 0, 0, 0)) none)))))) (cond (Nat.ble 410 pc) (cond (Nat.ble 424 pc) (cond (Nat.ble 434 pc) (cond (Nat.ble 439 pc) (cond (Nat.ble 440 pc) (cond (Nat.ble 443 pc) (cond (Nat.beq pc 443) (some (.if_icmp .eq 701, 446, 1144, 0, 0, 0)) none) (cond (Nat.beq pc 440) (some (.invokevirtual 49, 443, 164, 0, 1265, 0)) none)) (cond (Nat.beq pc 439) (some (.aload_n 2, 440, 0, 0, 0, 0)) none)) (cond (Nat.ble 435 pc) (cond (Nat.ble 436 pc) (cond (Nat.beq pc 436) (some (.invokevirtual 46, 439, 60, 0, 618, 0)) none) (cond (Nat.beq pc 435) (some (.aload_n 1, 436, 0, 0, 0, 0)) none)) (cond (Nat.beq pc 434) (some (.ireturn, 435, 0, 0, 0, 0)) none))) (cond (Nat.ble 427 pc) (cond (Nat.ble 430 pc) (cond (Nat.ble 433 pc) (cond (Nat.beq pc 433) (some (.iconst 0, 434, 0, 0, 0, 0)) none) (cond (Nat.beq pc 430) (some (.if_icmp .eq 714, 433, 1144, 0, 0, 0)) none)) (cond (Nat.beq pc 427) (some (.invokevirtual 45, 430, 163, 0, 1261, 0)) none)) (cond (Nat.ble 425 pc) (cond (Nat.ble 426 pc) (cond (Nat.beq pc 426) (some (.iaload, 427, 0, 0, 0, 0)) none) (cond (Nat.beq pc 425) (some (.iadd, 426, 0, 0, 0, 0)) none)) (cond (Nat.beq pc 424) (some (.iconst 2, 425, 0, 0, 0, 0)) none)))) (cond (Nat.ble 418 pc) (cond (Nat.ble 421 pc) (cond (Nat.ble 422 pc) (cond (Nat.ble 423 pc) (cond (Nat.beq pc 423) (some (.iload_n 3, 424, 0, 0, 0, 0)) none) (cond (Nat.beq pc 422) (some (.aload_n 0, 423, 0, 0, 0, 0)) none)) (cond (Nat.beq pc 421) (some (.iaload, 422, 0, 0, 0, 0)) none)) (cond (Nat.ble 419 pc) (cond (Nat.ble 420 pc) (cond (Nat.beq pc 420) (some (.iadd, 421, 0, 0, 0, 0)) none) (cond (Nat.beq pc 419) (some (.iconst 1, 420, 0, 0, 0, 0)) none)) (cond (Nat.beq pc 418) (some (.iload_n 3, 419, 0, 0, 0, 0)) none))) (cond (Nat.ble 413 pc) (cond (Nat.ble 416 pc) (cond (Nat.ble 417 pc) (cond (Nat.beq pc 417) (some (.aload_n 0, 418, 0, 0, 0, 0)) none) (cond (Nat.beq pc 416) (some (.aload_n 2, 417, 0, 0, 0, 0)) none)) (cond (Nat.beq pc 413) (some (.invokevirtual 42, 416, 59, 0, 614, 0)) none)) (cond (Nat.ble 411 pc) (cond (Nat.ble 412 pc) (cond (Nat.beq pc 412) (some (.iaload, 413, 0, 0, 0, 0)) none) (cond (Nat.beq pc 411) (some (.iadd, 412, 0, 0, 0, 0)) none)) (cond (Nat.beq pc 410) (some (.iconst 2, 411, 0, 0, 0, 0)) none))))) (cond (Nat.ble 394 pc) (cond (Nat.ble 404 pc) (cond (Nat.ble 407 pc) (cond (Nat.ble 408 pc) (cond (Nat.ble 409 pc) (cond (Nat.beq pc 409) (some (.iload_n 3, 410, 0, 0, 0, 0)) none) (cond (Nat.beq pc 408) (some (.aload_n 0, 409, 0, 0, 0, 0)) none)) (cond (Nat.beq pc 407) (some (.iaload, 408, 0, 0, 0, 0)) none)) (cond (Nat.ble 405 pc) (cond (Nat.ble 406 pc) (cond (Nat.beq pc 406) (some (.iadd, 407, 0, 0, 0, 0)) none) (cond (Nat.beq pc 405) (some (.iconst 1, 406, 0, 0, 0, 0)) none)) (cond (Nat.beq pc 404) (some (.iload_n 3, 405, 0, 0, 0, 0)) none))) (cond (Nat.ble 401 pc) (cond (Nat.ble 402 pc) (cond (Nat.ble 403 pc) (cond (Nat.beq pc 403) (some (.aload_n 0, 404, 0, 0, 0, 0)) none) (cond (Nat.beq pc 402) (some (.aload_n 1, 403, 0, 0, 0, 0)) none)) (cond (Nat.beq pc 401) (some (.ireturn, 402, 0, 0, 0, 0)) none)) (cond (Nat.ble 397 pc) (cond (Nat.ble 400 pc) (cond (Nat.beq pc 400) (some (.iconst 0, 401, 0, 0, 0, 0)) none) (cond (Nat.beq pc 397) (some (.if_icmp .eq 747, 400, 1144, 0, 0, 0)) none)) (cond (Nat.beq pc 394) (some (.invokevirtual 41, 397, 150, 0, 1202, 0)) none)))) (cond (Nat.ble 388 pc) (cond (Nat.ble 391 pc) (cond (Nat.ble 392 pc) (cond (Nat.ble 393 pc) (cond (Nat.beq pc 393) (some (.iaload, 394, 0, 0, 0, 0)) none) (cond (Nat.beq pc 392) (some (.iadd, 393, 0, 0, 0, 0)) none)) (cond (Nat.beq pc 391) (some (.iconst 2, 392, 0, 0, 0, 0)) none)) (cond (Nat.ble 389 pc) (cond (Nat.ble 390 pc) (cond (Nat.beq pc 390) (some (.iload_n 3, 391, 0, 0, 0, 0)) none) (cond (Nat.beq pc 389) (some (.aload_n 0, 390, 0, 0, 0, 0)) none)) (cond (Nat.beq pc 388) (some (.iaload, 389, 0, 0, 0, 0)) none))) (cond (Nat.ble 385 pc) (cond (Nat.ble 386 pc) (cond (Nat.ble 387 pc) (cond (Nat.beq pc 387) (some (.iadd, 388, 0, 0, 0, 0)) none) (cond (Nat.beq pc 386) (some (.iconst 1, 387, 0, 0, 0, 0)) none)) (cond (Nat.beq pc 385) (some (.iload_n 3, 386, 0, 0, 0, 0)) none)) (cond (Nat.ble 384 pc) (cond (Nat.beq pc 384) (some (.aload_n 0, 385, 0, 0, 0, 0)) none) (cond (Nat.beq pc 383) (some (.aload_n 2, 384, 0, 0, 0, 0)) none)))))))) (cond (Nat.ble 268 pc) (cond (Nat.ble 323 pc) (cond (Nat.ble 353 pc) (cond (Nat.ble 369 pc) (cond (Nat.ble 375 pc) (cond (Nat.ble 378 pc) (cond (Nat.ble 379 pc) (cond (Nat.ble 380 pc) (cond (Nat.beq pc 380) (some (.invokevirtual 38, 383, 39, 0, 503, 0)) none) (cond (Nat.beq pc 379) (some (.iaload, 380, 0, 0, 0, 0)) none)) (cond (Nat.beq pc 378) (some (.iadd, 379, 0, 0, 0, 0)) none)) (cond (Nat.ble 376 pc) (cond (Nat.ble 377 pc) (cond (Nat.beq pc 377) (some (.iconst 2, 378, 0, 0, 0, 0)) none) (cond (Nat.beq pc 376) (some (.iload_n 3, 377, 0, 0, 0, 0)) none)) (cond (Nat.beq pc 375) (some (.aload_n 0, 376, 0, 0, 0, 0)) none))) (cond (Nat.ble 372 pc) (cond (Nat.ble 373 pc) (cond (Nat.ble 374 pc) (cond (Nat.beq pc 374) (some (.iaload, 375, 0, 0, 0, 0)) none) (cond (Nat.beq pc 373) (some (.iadd, 374, 0, 0, 0, 0)) none)) (cond (Nat.beq pc 372) (some (.iconst 1, 373, 0, 0, 0, 0)) none)) (cond (Nat.ble 370 pc) (cond (Nat.ble 371 pc) (cond (Nat.beq pc 371) (some (.iload_n 3, 372, 0, 0, 0, 0)) none) (cond (Nat.beq pc 370) (some (.aload_n 0, 371, 0, 0, 0, 0)) none)) (cond (Nat.beq pc 369) (some (.aload_n 1, 370, 0, 0, 0, 0)) none)))) (cond (Nat.ble 359 pc) (cond (Nat.ble 364 pc) (cond (Nat.ble 367 pc) (cond (Nat.ble 368 pc) (cond (Nat.beq pc 368) (some (.ireturn, 369, 0, 0, 0, 0)) none) (cond (Nat.beq pc 367) (some (.iconst 0, 368, 0, 0, 0, 0)) none)) (cond (Nat.beq pc 364) (some (.if_icmp .eq 780, 367, 1144, 0, 0, 0)) none)) (cond (Nat.ble 360 pc) (cond (Nat.ble 361 pc) (cond (Nat.beq pc 361) (some (.invokevirtual 37, 364, 145, 0, 1182, 0)) none) (cond (Nat.beq pc 360) (some (.iaload, 361, 0, 0, 0, 0)) none)) (cond (Nat.beq pc 359) (some (.iadd, 360, 0, 0, 0, 0)) none))) (cond (Nat.ble 356 pc) (cond (Nat.ble 357 pc) (cond (Nat.ble 358 pc) (cond (Nat.beq pc 358) (some (.iconst 2, 359, 0, 0, 0, 0)) none) (cond (Nat.beq pc 357) (some (.iload_n 3, 358, 0, 0, 0, 0)) none)) (cond (Nat.beq pc 356) (some (.aload_n 0, 357, 0, 0, 0, 0)) none)) (cond (Nat.ble 354 pc) (cond (Nat.ble 355 pc) (cond (Nat.beq pc 355) (some (.iaload, 356, 0, 0, 0, 0)) none) (cond (Nat.beq pc 354) (some (.iadd, 355, 0, 0, 0, 0)) none)) (cond (Nat.beq pc 353) (some (.iconst 1, 354, 0, 0, 0, 0)) none))))) (cond (Nat.ble 339 pc) (cond (Nat.ble 345 pc) (cond (Nat.ble 350 pc) (cond (Nat.ble 351 pc) (cond (Nat.ble 352 pc) (cond (Nat.beq pc 352) (some (.iload_n 3, 353, 0, 0, 0, 0)) none) (cond (Nat.beq pc 351) (some (.aload_n 0, 352, 0, 0, 0, 0)) none)) (cond (Nat.beq pc 350) (some (.aload_n 2, 351, 0, 0, 0, 0)) none)) (cond (Nat.ble 346 pc) (cond (Nat.ble 347 pc) (cond (Nat.beq pc 347) (some (.invokevirtual 33, 350, 36, 0, 490, 0)) none) (cond (Nat.beq pc 346) (some (.iaload, 347, 0, 0, 0, 0)) none)) (cond (Nat.beq pc 345) (some (.iadd, 346, 0, 0, 0, 0)) none))) (cond (Nat.ble 342 pc) (cond (Nat.ble 343 pc) (cond (Nat.ble 344 pc) (cond (Nat.beq pc 344) (some (.iconst 2, 345, 0, 0, 0, 0)) none) (cond (Nat.beq pc 343) (some (.iload_n 3, 344, 0, 0, 0, 0)) none)) (cond (Nat.beq pc 342) (some (.aload_n 0, 343, 0, 0, 0, 0)) none)) (cond (Nat.ble 340 pc) (cond (Nat.ble 341 pc) (cond (Nat.beq pc 341) (some (.iaload, 342, 0, 0, 0, 0)) none) (cond (Nat.beq pc 340) (some (.iadd, 341, 0, 0, 0, 0)) none)) (cond (Nat.beq pc 339) (some (.iconst 1, 340, 0, 0, 0, 0)) none)))) (cond (Nat.ble 331 pc) (cond (Nat.ble 336 pc) (cond (Nat.ble 337 pc) (cond (Nat.ble 338 pc) (cond (Nat.beq pc 338) (some (.iload_n 3, 339, 0, 0, 0, 0)) none) (cond (Nat.beq pc 337) (some (.aload_n 0, 338, 0, 0, 0, 0)) none)) (cond (Nat.beq pc 336) (some (.aload_n 1, 337, 0, 0, 0, 0)) none)) (cond (Nat.ble 334 pc) (cond (Nat.ble 335 pc) (cond (Nat.beq pc 335) (some (.ireturn, 336, 0, 0, 0, 0)) none) (cond (Nat.beq pc 334) (some (.iconst 0, 335, 0, 0, 0, 0)) none)) (cond (Nat.beq pc 331) (some (.if_icmp .eq 813, 334, 1144, 0, 0, 0)) none))) (cond (Nat.ble 326 pc) (cond (Nat.ble 327 pc) (cond (Nat.ble 328 pc) (cond (Nat.beq pc 328) (some (.invokevirtual 32, 331, 142, 0, 1170, 0)) none) (cond (Nat.beq pc 327) (some (.iaload, 328, 0, 0, 0, 0)) none)) (cond (Nat.beq pc 326) (some (.iadd, 327, 0, 0, 0, 0)) none)) (cond (Nat.ble 324 pc) (cond (Nat.ble 325 pc) (cond (Nat.beq pc 325) (some (.iconst 2, 326, 0, 0, 0, 0)) none) (cond (Nat.beq pc 324) (some (.iload_n 3, 325, 0, 0, 0, 0)) none)) (cond (Nat.beq pc 323) (some (.aload_n 0, 324, 0, 0, 0, 0)) none)))))) (cond (Nat.ble 293 pc) (cond (Nat.ble 309 pc) (cond (Nat.ble 317 pc) (cond (Nat.ble 320 pc) (cond (Nat.ble 321 pc) (cond (Nat.ble 322 pc) (cond (Nat.beq pc 322) (some (.iaload, 323, 0, 0, 0, 0)) none) (cond (Nat.beq pc 321) (some (.iadd, 322, 0, 0, 0, 0)) none)) (cond (Nat.beq pc 320) (some (.iconst 1, 321, 0, 0, 0, 0)) none)) (cond (Nat.ble 318 pc) (cond (Nat.ble 319 pc) (cond (Nat.beq pc 319) (some (.iload_n 3, 320, 0, 0, 0, 0)) none) (cond (Nat.beq pc 318) (some (.aload_n 0, 319, 0, 0, 0, 0)) none)) (cond (Nat.beq pc 317) (some (.aload_n 2, 318, 0, 0, 0, 0)) none))) (cond (Nat.ble 312 pc) (cond (Nat.ble 313 pc) (cond (Nat.ble 314 pc) (cond (Nat.beq pc 314) (some (.invokevirtual 28, 317, 32, 0, 472, 0)) none) (cond (Nat.beq pc 313) (some (.iaload, 314, 0, 0, 0, 0)) none)) (cond (Nat.beq pc 312) (some (.iadd, 313, 0, 0, 0, 0)) none)) (cond (Nat.ble 310 pc) (cond (Nat.ble 311 pc) (cond (Nat.beq pc 311) (some (.iconst 2, 312, 0, 0, 0, 0)) none) (cond (Nat.beq pc 310) (some (.iload_n 3, 311, 0, 0, 0, 0)) none)) (cond (Nat.beq pc 309) (some (.aload_n 0, 310, 0, 0, 0, 0)) none)))) (cond (Nat.ble 303 pc) (cond (Nat.ble 306 pc) (cond (Nat.ble 307 pc) (cond (Nat.ble 308 pc) (cond (Nat.beq pc 308) (some (.iaload, 309, 0, 0, 0, 0)) none) (cond (Nat.beq pc 307) (some (.iadd, 308, 0, 0, 0, 0)) none)) (cond (Nat.beq pc 306) (some (.iconst 1, 307, 0, 0, 0, 0)) none)) (cond (Nat.ble 304 pc) (cond (Nat.ble 305 pc) (cond (Nat.beq pc 305) (some (.iload_n 3, 306, 0, 0, 0, 0)) none) (cond (Nat.beq pc 304) (some (.aload_n 0, 305, 0, 0, 0, 0)) none)) (cond (Nat.beq pc 303) (some (.aload_n 1, 304, 0, 0, 0, 0)) none))) (cond (Nat.ble 298 pc) (cond (Nat.ble 301 pc) (cond (Nat.ble 302 pc) (cond (Nat.beq pc 302) (some (.ireturn, 303, 0, 0, 0, 0)) none) (cond (Nat.beq pc 301) (some (.iconst 0, 302, 0, 0, 0, 0)) none)) (cond (Nat.beq pc 298) (some (.if_icmp .eq 846, 301, 1144, 0, 0, 0)) none)) (cond (Nat.ble 294 pc) (cond (Nat.ble 295 pc) (cond (Nat.beq pc 295) (some (.invokevirtual 27, 298, 135, 0, 1143, 0)) none) (cond (Nat.beq pc 294) (some (.iaload, 295, 0, 0, 0, 0)) none)) (cond (Nat.beq pc 293) (some (.iadd, 294, 0, 0, 0, 0)) none))))) (cond (Nat.ble 281 pc) (cond (Nat.ble 287 pc) (cond (Nat.ble 290 pc) (cond (Nat.ble 291 pc) (cond (Nat.ble 292 pc) (cond (Nat.beq pc 292) (some (.iconst 3, 293, 0, 0, 0, 0)) none) (cond (Nat.beq pc 291) (some (.iload_n 3, 292, 0, 0, 0, 0)) none)) (cond (Nat.beq pc 290) (some (.aload_n 0, 291, 0, 0, 0, 0)) none)) (cond (Nat.ble 288 pc) (cond (Nat.ble 289 pc) (cond (Nat.beq pc 289) (some (.iaload, 290, 0, 0, 0, 0)) none) (cond (Nat.beq pc 288) (some (.iadd, 289, 0, 0, 0, 0)) none)) (cond (Nat.beq pc 287) (some (.iconst 2, 288, 0, 0, 0, 0)) none))) (cond (Nat.ble 284 pc) (cond (Nat.ble 285 pc) (cond (Nat.ble 286 pc) (cond (Nat.beq pc 286) (some (.iload_n 3, 287, 0, 0, 0, 0)) none) (cond (Nat.beq pc 285) (some (.aload_n 0, 286, 0, 0, 0, 0)) none)) (cond (Nat.beq pc 284) (some (.iaload, 285, 0, 0, 0, 0)) none)) (cond (Nat.ble 282 pc) (cond (Nat.ble 283 pc) (cond (Nat.beq pc 283) (some (.iadd, 284, 0, 0, 0, 0)) none) (cond (Nat.beq pc 282) (some (.iconst 1, 283, 0, 0, 0, 0)) none)) (cond (Nat.beq pc 281) (some (.iload_n 3, 282, 0, 0, 0, 0)) none)))) (cond (Nat.ble 273 pc) (cond (Nat.ble 276 pc) (cond (Nat.ble 279 pc) (cond (Nat.ble 280 pc) (cond (Nat.beq pc 280) (some (.aload_n 0, 281, 0, 0, 0, 0)) none) (cond (Nat.beq pc 279) (some (.aload_n 2, 280, 0, 0, 0, 0)) none)) (cond (Nat.beq pc 276) (some (.invokevirtual 23, 279, 17, 0, 413, 0)) none)) (cond (Nat.ble 274 pc) (cond (Nat.ble 275 pc) (cond (Nat.beq pc 275) (some (.iaload, 276, 0, 0, 0, 0)) none) (cond (Nat.beq pc 274) (some (.iadd, 275, 0, 0, 0, 0)) none)) (cond (Nat.beq pc 273) (some (.iconst 3, 274, 0, 0, 0, 0)) none))) (cond (Nat.ble 270 pc) (cond (Nat.ble 271 pc) (cond (Nat.ble 272 pc) (cond (Nat.beq pc 272) (some (.iload_n 3, 273, 0, 0, 0, 0)) none) (cond (Nat.beq pc 271) (some (.aload_n 0, 272, 0, 0, 0, 0)) none)) (cond (Nat.beq pc 270) (some (.iaload, 271, 0, 0, 0, 0)) none)) (cond (Nat.ble 269 pc) (cond (Nat.beq pc 269) (some (.iadd, 270, 0, 0, 0, 0)) none) (cond (Nat.beq pc 268) (some (.iconst 2, 269, 0, 0, 0, 0)) none))))))) (cond (Nat.ble 215 pc) (cond (Nat.ble 240 pc) (cond (Nat.ble 252 pc) (cond (Nat.ble 262 pc) (cond (Nat.ble 265 pc) (cond (Nat.ble 266 pc) (cond (Nat.ble 267 pc) (cond (Nat.beq pc 267) (some (.iload_n 3, 268, 0, 0, 0, 0)) none) (cond (Nat.beq pc 266) (some (.aload_n 0, 267, 0, 0, 0, 0)) none)) (cond (Nat.beq pc 265) (some (.iaload, 266, 0, 0, 0, 0)) none)) (cond (Nat.ble 263 pc) (cond (Nat.ble 264 pc) (cond (Nat.beq pc 264) (some (.iadd, 265, 0, 0, 0, 0)) none) (cond (Nat.beq pc 263) (some (.iconst 1, 264, 0, 0, 0, 0)) none)) (cond (Nat.beq pc 262) (some (.iload_n 3, 263, 0, 0, 0, 0)) none))) (cond (Nat.ble 259 pc) (cond (Nat.ble 260 pc) (cond (Nat.ble 261 pc) (cond (Nat.beq pc 261) (some (.aload_n 0, 262, 0, 0, 0, 0)) none) (cond (Nat.beq pc 260) (some (.aload_n 1, 261, 0, 0, 0, 0)) none)) (cond (Nat.beq pc 259) (some (.ireturn, 260, 0, 0, 0, 0)) none)) (cond (Nat.ble 255 pc) (cond (Nat.ble 258 pc) (cond (Nat.beq pc 258) (some (.iconst 0, 259, 0, 0, 0, 0)) none) (cond (Nat.beq pc 255) (some (.if_icmp .eq 889, 258, 1144, 0, 0, 0)) none)) (cond (Nat.beq pc 252) (some (.invokevirtual 22, 255, 131, 0, 1127, 0)) none)))) (cond (Nat.ble 246 pc) (cond (Nat.ble 249 pc) (cond (Nat.ble 250 pc) (cond (Nat.ble 251 pc) (cond (Nat.beq pc 251) (some (.iaload, 252, 0, 0, 0, 0)) none) (cond (Nat.beq pc 250) (some (.iadd, 251, 0, 0, 0, 0)) none)) (cond (Nat.beq pc 249) (some (.iconst 5, 250, 0, 0, 0, 0)) none)) (cond (Nat.ble 247 pc) (cond (Nat.ble 248 pc) (cond (Nat.beq pc 248) (some (.iload_n 3, 249, 0, 0, 0, 0)) none) (cond (Nat.beq pc 247) (some (.aload_n 0, 248, 0, 0, 0, 0)) none)) (cond (Nat.beq pc 246) (some (.iaload, 247, 0, 0, 0, 0)) none))) (cond (Nat.ble 243 pc) (cond (Nat.ble 244 pc) (cond (Nat.ble 245 pc) (cond (Nat.beq pc 245) (some (.iadd, 246, 0, 0, 0, 0)) none) (cond (Nat.beq pc 244) (some (.iconst 4, 245, 0, 0, 0, 0)) none)) (cond (Nat.beq pc 243) (some (.iload_n 3, 244, 0, 0, 0, 0)) none)) (cond (Nat.ble 241 pc) (cond (Nat.ble 242 pc) (cond (Nat.beq pc 242) (some (.aload_n 0, 243, 0, 0, 0, 0)) none) (cond (Nat.beq pc 241) (some (.iaload, 242, 0, 0, 0, 0)) none)) (cond (Nat.beq pc 240) (some (.iadd, 241, 0, 0, 0, 0)) none))))) (cond (Nat.ble 228 pc) (cond (Nat.ble 234 pc) (cond (Nat.ble 237 pc) (cond (Nat.ble 238 pc) (cond (Nat.ble 239 pc) (cond (Nat.beq pc 239) (some (.iconst 3, 240, 0, 0, 0, 0)) none) (cond (Nat.beq pc 238) (some (.iload_n 3, 239, 0, 0, 0, 0)) none)) (cond (Nat.beq pc 237) (some (.aload_n 0, 238, 0, 0, 0, 0)) none)) (cond (Nat.ble 235 pc) (cond (Nat.ble 236 pc) (cond (Nat.beq pc 236) (some (.iaload, 237, 0, 0, 0, 0)) none) (cond (Nat.beq pc 235) (some (.iadd, 236, 0, 0, 0, 0)) none)) (cond (Nat.beq pc 234) (some (.iconst 2, 235, 0, 0, 0, 0)) none))) (cond (Nat.ble 231 pc) (cond (Nat.ble 232 pc) (cond (Nat.ble 233 pc) (cond (Nat.beq pc 233) (some (.iload_n 3, 234, 0, 0, 0, 0)) none) (cond (Nat.beq pc 232) (some (.aload_n 0, 233, 0, 0, 0, 0)) none)) (cond (Nat.beq pc 231) (some (.iaload, 232, 0, 0, 0, 0)) none)) (cond (Nat.ble 229 pc) (cond (Nat.ble 230 pc) (cond (Nat.beq pc 230) (some (.iadd, 231, 0, 0, 0, 0)) none) (cond (Nat.beq pc 229) (some (.iconst 1, 230, 0, 0, 0, 0)) none)) (cond (Nat.beq pc 228) (some (.iload_n 3, 229, 0, 0, 0, 0)) none)))) (cond (Nat.ble 220 pc) (cond (Nat.ble 223 pc) (cond (Nat.ble 226 pc) (cond (Nat.ble 227 pc) (cond (Nat.beq pc 227) (some (.aload_n 0, 228, 0, 0, 0, 0)) none) (cond (Nat.beq pc 226) (some (.aload_n 2, 227, 0, 0, 0, 0)) none)) (cond (Nat.beq pc 223) (some (.invokevirtual 18, 226, 14, 0, 400, 0)) none)) (cond (Nat.ble 221 pc) (cond (Nat.ble 222 pc) (cond (Nat.beq pc 222) (some (.iaload, 223, 0, 0, 0, 0)) none) (cond (Nat.beq pc 221) (some (.iadd, 222, 0, 0, 0, 0)) none)) (cond (Nat.beq pc 220) (some (.iconst 5, 221, 0, 0, 0, 0)) none))) (cond (Nat.ble 217 pc) (cond (Nat.ble 218 pc) (cond (Nat.ble 219 pc) (cond (Nat.beq pc 219) (some (.iload_n 3, 220, 0, 0, 0, 0)) none) (cond (Nat.beq pc 218) (some (.aload_n 0, 219, 0, 0, 0, 0)) none)) (cond (Nat.beq pc 217) (some (.iaload, 218, 0, 0, 0, 0)) none)) (cond (Nat.ble 216 pc) (cond (Nat.beq pc 216) (some (.iadd, 217, 0, 0, 0, 0)) none) (cond (Nat.beq pc 215) (some (.iconst 4, 216, 0, 0, 0, 0)) none)))))) (cond (Nat.ble 185 pc) (cond (Nat.ble 203 pc) (cond (Nat.ble 209 pc) (cond (Nat.ble 212 pc) (cond (Nat.ble 213 pc) (cond (Nat.ble 214 pc) (cond (Nat.beq pc 214) (some (.iload_n 3, 215, 0, 0, 0, 0)) none) (cond (Nat.beq pc 213) (some (.aload_n 0, 214, 0, 0, 0, 0)) none)) (cond (Nat.beq pc 212) (some (.iaload, 213, 0, 0, 0, 0)) none)) (cond (Nat.ble 210 pc) (cond (Nat.ble 211 pc) (cond (Nat.beq pc 211) (some (.iadd, 212, 0, 0, 0, 0)) none) (cond (Nat.beq pc 210) (some (.iconst 3, 211, 0, 0, 0, 0)) none)) (cond (Nat.beq pc 209) (some (.iload_n 3, 210, 0, 0, 0, 0)) none))) (cond (Nat.ble 206 pc) (cond (Nat.ble 207 pc) (cond (Nat.ble 208 pc) (cond (Nat.beq pc 208) (some (.aload_n 0, 209, 0, 0, 0, 0)) none) (cond (Nat.beq pc 207) (some (.iaload, 208, 0, 0, 0, 0)) none)) (cond (Nat.beq pc 206) (some (.iadd, 207, 0, 0, 0, 0)) none)) (cond (Nat.ble 204 pc) (cond (Nat.ble 205 pc) (cond (Nat.beq pc 205) (some (.iconst 2, 206, 0, 0, 0, 0)) none) (cond (Nat.beq pc 204) (some (.iload_n 3, 205, 0, 0, 0, 0)) none)) (cond (Nat.beq pc 203) (some (.aload_n 0, 204, 0, 0, 0, 0)) none)))) (cond (Nat.ble 197 pc) (cond (Nat.ble 200 pc) (cond (Nat.ble 201 pc) (cond (Nat.ble 202 pc) (cond (Nat.beq pc 202) (some (.iaload, 203, 0, 0, 0, 0)) none) (cond (Nat.beq pc 201) (some (.iadd, 202, 0, 0, 0, 0)) none)) (cond (Nat.beq pc 200) (some (.iconst 1, 201, 0, 0, 0, 0)) none)) (cond (Nat.ble 198 pc) (cond (Nat.ble 199 pc) (cond (Nat.beq pc 199) (some (.iload_n 3, 200, 0, 0, 0, 0)) none) (cond (Nat.beq pc 198) (some (.aload_n 0, 199, 0, 0, 0, 0)) none)) (cond (Nat.beq pc 197) (some (.aload_n 1, 198, 0, 0, 0, 0)) none))) (cond (Nat.ble 192 pc) (cond (Nat.ble 195 pc) (cond (Nat.ble 196 pc) (cond (Nat.beq pc 196) (some (.ireturn, 197, 0, 0, 0, 0)) none) (cond (Nat.beq pc 195) (some (.iconst 0, 196, 0, 0, 0, 0)) none)) (cond (Nat.beq pc 192) (some (.if_icmp .eq 952, 195, 1144, 0, 0, 0)) none)) (cond (Nat.ble 188 pc) (cond (Nat.ble 189 pc) (cond (Nat.beq pc 189) (some (.invokevirtual 17, 192, 132, 0, 1131, 0)) none) (cond (Nat.beq pc 188) (some (.aload_n 2, 189, 0, 0, 0, 0)) none)) (cond (Nat.beq pc 185) (some (.invokevirtual 13, 188, 11, 0, 388, 0)) none))))) (cond (Nat.ble 19 pc) (cond (Nat.ble 28 pc) (cond (Nat.ble 32 pc) (cond (Nat.ble 33 pc) (cond (Nat.ble 184 pc) (cond (Nat.beq pc 184) (some (.aload_n 1, 185, 0, 0, 0, 0)) none) (cond (Nat.beq pc 33) (some (.tableswitch 1111 0 33 #[151, 164, 227, 270, 303, 336, 369, 402, 415, 428, 461, 494, 543, 566, 579, 602, 625, 638, 661, 694, 707, 756, 815, 838, 861, 884, 917, 970, 993, 1016, 1029, 1052, 1075, 1098], 184, 0, 0, 0, 0)) none)) (cond (Nat.beq pc 32) (some (.iand, 33, 0, 0, 0, 0)) none)) (cond (Nat.ble 29 pc) (cond (Nat.ble 30 pc) (cond (Nat.beq pc 30) (some (.bipush 63, 32, 0, 0, 0, 0)) none) (cond (Nat.beq pc 29) (some (.iaload, 30, 0, 0, 0, 0)) none)) (cond (Nat.beq pc 28) (some (.iload_n 3, 29, 0, 0, 0, 0)) none))) (cond (Nat.ble 23 pc) (cond (Nat.ble 24 pc) (cond (Nat.ble 27 pc) (cond (Nat.beq pc 27) (some (.aload_n 0, 28, 0, 0, 0, 0)) none) (cond (Nat.beq pc 24) (some (.if_icmp .gt 1126, 27, 1150, 0, 0, 0)) none)) (cond (Nat.beq pc 23) (some (.isub, 24, 0, 0, 0, 0)) none)) (cond (Nat.ble 20 pc) (cond (Nat.ble 21 pc) (cond (Nat.beq pc 21) (some (.bipush 6, 23, 0, 0, 0, 0)) none) (cond (Nat.beq pc 20) (some (.arraylength, 21, 0, 0, 0, 0)) none)) (cond (Nat.beq pc 19) (some (.aload_n 0, 20, 0, 0, 0, 0)) none)))) (cond (Nat.ble 11 pc) (cond (Nat.ble 16 pc) (cond (Nat.ble 17 pc) (cond (Nat.ble 18 pc) (cond (Nat.beq pc 18) (some (.iload_n 3, 19, 0, 0, 0, 0)) none) (cond (Nat.beq pc 17) (some (.istore_n 3, 18, 0, 0, 0, 0)) none)) (cond (Nat.beq pc 16) (some (.iconst 0, 17, 0, 0, 0, 0)) none)) (cond (Nat.ble 12 pc) (cond (Nat.ble 15 pc) (cond (Nat.beq pc 15) (some (.astore_n 2, 16, 0, 0, 0, 0)) none) (cond (Nat.beq pc 12) (some (.invokespecial 12, 15, 126, 0, 901, 0)) none)) (cond (Nat.beq pc 11) (some (.dup, 12, 0, 0, 0, 0)) none))) (cond (Nat.ble 4 pc) (cond (Nat.ble 7 pc) (cond (Nat.ble 8 pc) (cond (Nat.beq pc 8) (some (.new 10, 11, 11, 0, 899, 0)) none) (cond (Nat.beq pc 7) (some (.astore_n 1, 8, 0, 0, 0, 0)) none)) (cond (Nat.beq pc 4) (some (.invokespecial 9, 7, 0, 0, 125, 0)) none)) (cond (Nat.ble 3 pc) (cond (Nat.beq pc 3) (some (.dup, 4, 0, 0, 0, 0)) none) (cond (Nat.beq pc 0) (some (.new 7, 3, 9, 0, 123, 0)) none))))))))))
def ri (k pc : Nat) : Option RI := cond (Nat.ble 101 k) (cond (Nat.ble 152 k) (cond (Nat.ble 177 k) (cond (Nat.ble 190 k) (cond (Nat.ble 196 k) (cond (Nat.ble 199 k) (cond (Nat.ble 201 k) (cond (Nat.ble 202 k) (rc_202 pc) (rc_201 pc)) (cond (Nat.ble 200 k) (rc_200 pc) (rc_199 pc))) (cond (Nat.ble 197 k) (cond (Nat.ble 198 k) (rc_198 pc) (rc_197 pc)) (rc_196 pc))) (cond (Nat.ble 193 k) (cond (Nat.ble 194 k) (cond (Nat.ble 195 k) (rc_195 pc) (rc_194 pc)) (rc_193 pc)) (cond (Nat.ble 191 k) (cond (Nat.ble 192 k) (rc_192 pc) (rc_191 pc)) (rc_190 pc)))) (cond (Nat.ble 183 k) (cond (Nat.ble 186 k) (cond (Nat.ble 188 k) (cond (Nat.ble 189 k) (rc_189 pc) (rc_188 pc)) (cond (Nat.ble 187 k) (rc_187 pc) (rc_186 pc))) (cond (Nat.ble 184 k) (cond (Nat.ble 185 k) (rc_185 pc) (rc_184 pc)) (rc_183 pc))) (cond (Nat.ble 180 k) (cond (Nat.ble 181 k) (cond (Nat.ble 182 k) (rc_182 pc) (rc_181 pc)) (rc_180 pc)) (cond (Nat.ble 178 k) (cond (Nat.ble 179 k) (rc_179 pc) (rc_178 pc)) (rc_177 pc))))) (cond (Nat.ble 164 k) (cond (Nat.ble 170 k) (cond (Nat.ble 173 k) (cond (Nat.ble 175 k) (cond (Nat.ble 176 k) (rc_176 pc) (rc_175 pc)) (cond (Nat.ble 174 k) (rc_174 pc) (rc_173 pc))) (cond (Nat.ble 171 k) (cond (Nat.ble 172 k) (rc_172 pc) (rc_171 pc)) (rc_170 pc))) (cond (Nat.ble 167 k) (cond (Nat.ble 168 k) (cond (Nat.ble 169 k) (rc_169 pc) (rc_168 pc)) (rc_167 pc)) (cond (Nat.ble 165 k) (cond (Nat.ble 166 k) (rc_166 pc) (rc_165 pc)) (rc_164 pc)))) (cond (Nat.ble 158 k) (cond (Nat.ble 161 k) (cond (Nat.ble 162 k) (cond (Nat.ble 163 k) (rc_163 pc) (rc_162 pc)) (rc_161 pc)) (cond (Nat.ble 159 k) (cond (Nat.ble 160 k) (rc_160 pc) (rc_159 pc)) (rc_158 pc))) (cond (Nat.ble 155 k) (cond (Nat.ble 156 k) (cond (Nat.ble 157 k) (rc_157 pc) (rc_156 pc)) (rc_155 pc)) (cond (Nat.ble 153 k) (cond (Nat.ble 154 k) (rc_154 pc) (rc_153 pc)) (rc_152 pc)))))) (cond (Nat.ble 126 k) (cond (Nat.ble 139 k) (cond (Nat.ble 145 k) (cond (Nat.ble 148 k) (cond (Nat.ble 150 k) (cond (Nat.ble 151 k) (rc_151 pc) (rc_150 pc)) (cond (Nat.ble 149 k) (rc_149 pc) (rc_148 pc))) (cond (Nat.ble 146 k) (cond (Nat.ble 147 k) (rc_147 pc) (rc_146 pc)) (rc_145 pc))) (cond (Nat.ble 142 k) (cond (Nat.ble 143 k) (cond (Nat.ble 144 k) (rc_144 pc) (rc_143 pc)) (rc_142 pc)) (cond (Nat.ble 140 k) (cond (Nat.ble 141 k) (rc_141 pc) (rc_140 pc)) (rc_139 pc)))) (cond (Nat.ble 132 k) (cond (Nat.ble 135 k) (cond (Nat.ble 137 k) (cond (Nat.ble 138 k) (rc_138 pc) (rc_137 pc)) (cond (Nat.ble 136 k) (rc_136 pc) (rc_135 pc))) (cond (Nat.ble 133 k) (cond (Nat.ble 134 k) (rc_134 pc) (rc_133 pc)) (rc_132 pc))) (cond (Nat.ble 129 k) (cond (Nat.ble 130 k) (cond (Nat.ble 131 k) (rc_131 pc) (rc_130 pc)) (rc_129 pc)) (cond (Nat.ble 127 k) (cond (Nat.ble 128 k) (rc_128 pc) (rc_127 pc)) (rc_126 pc))))) (cond (Nat.ble 113 k) (cond (Nat.ble 119 k) (cond (Nat.ble 122 k) (cond (Nat.ble 124 k) (cond (Nat.ble 125 k) (rc_125 pc) (rc_124 pc)) (cond (Nat.ble 123 k) (rc_123 pc) (rc_122 pc))) (cond (Nat.ble 120 k) (cond (Nat.ble 121 k) (rc_121 pc) (rc_120 pc)) (rc_119 pc))) (cond (Nat.ble 116 k) (cond (Nat.ble 117 k) (cond (Nat.ble 118 k) (rc_118 pc) (rc_117 pc)) (rc_116 pc)) (cond (Nat.ble 114 k) (cond (Nat.ble 115 k) (rc_115 pc) (rc_114 pc)) (rc_113 pc)))) (cond (Nat.ble 107 k) (cond (Nat.ble 110 k) (cond (Nat.ble 111 k) (cond (Nat.ble 112 k) (rc_112 pc) (rc_111 pc)) (rc_110 pc)) (cond (Nat.ble 108 k) (cond (Nat.ble 109 k) (rc_109 pc) (rc_108 pc)) (rc_107 pc))) (cond (Nat.ble 104 k) (cond (Nat.ble 105 k) (cond (Nat.ble 106 k) (rc_106 pc) (rc_105 pc)) (rc_104 pc)) (cond (Nat.ble 102 k) (cond (Nat.ble 103 k) (rc_103 pc) (rc_102 pc)) (rc_101 pc))))))) (cond (Nat.ble 50 k) (cond (Nat.ble 75 k) (cond (Nat.ble 88 k) (cond (Nat.ble 94 k) (cond (Nat.ble 97 k) (cond (Nat.ble 99 k) (cond (Nat.ble 100 k) (rc_100 pc) (rc_99 pc)) (cond (Nat.ble 98 k) (rc_98 pc) (rc_97 pc))) (cond (Nat.ble 95 k) (cond (Nat.ble 96 k) (rc_96 pc) (rc_95 pc)) (rc_94 pc))) (cond (Nat.ble 91 k) (cond (Nat.ble 92 k) (cond (Nat.ble 93 k) (rc_93 pc) (rc_92 pc)) (rc_91 pc)) (cond (Nat.ble 89 k) (cond (Nat.ble 90 k) (rc_90 pc) (rc_89 pc)) (rc_88 pc)))) (cond (Nat.ble 81 k) (cond (Nat.ble 84 k) (cond (Nat.ble 86 k) (cond (Nat.ble 87 k) (rc_87 pc) (rc_86 pc)) (cond (Nat.ble 85 k) (rc_85 pc) (rc_84 pc))) (cond (Nat.ble 82 k) (cond (Nat.ble 83 k) (rc_83 pc) (rc_82 pc)) (rc_81 pc))) (cond (Nat.ble 78 k) (cond (Nat.ble 79 k) (cond (Nat.ble 80 k) (rc_80 pc) (rc_79 pc)) (rc_78 pc)) (cond (Nat.ble 76 k) (cond (Nat.ble 77 k) (rc_77 pc) (rc_76 pc)) (rc_75 pc))))) (cond (Nat.ble 62 k) (cond (Nat.ble 68 k) (cond (Nat.ble 71 k) (cond (Nat.ble 73 k) (cond (Nat.ble 74 k) (rc_74 pc) (rc_73 pc)) (cond (Nat.ble 72 k) (rc_72 pc) (rc_71 pc))) (cond (Nat.ble 69 k) (cond (Nat.ble 70 k) (rc_70 pc) (rc_69 pc)) (rc_68 pc))) (cond (Nat.ble 65 k) (cond (Nat.ble 66 k) (cond (Nat.ble 67 k) (rc_67 pc) (rc_66 pc)) (rc_65 pc)) (cond (Nat.ble 63 k) (cond (Nat.ble 64 k) (rc_64 pc) (rc_63 pc)) (rc_62 pc)))) (cond (Nat.ble 56 k) (cond (Nat.ble 59 k) (cond (Nat.ble 60 k) (cond (Nat.ble 61 k) (rc_61 pc) (rc_60 pc)) (rc_59 pc)) (cond (Nat.ble 57 k) (cond (Nat.ble 58 k) (rc_58 pc) (rc_57 pc)) (rc_56 pc))) (cond (Nat.ble 53 k) (cond (Nat.ble 54 k) (cond (Nat.ble 55 k) (rc_55 pc) (rc_54 pc)) (rc_53 pc)) (cond (Nat.ble 51 k) (cond (Nat.ble 52 k) (rc_52 pc) (rc_51 pc)) (rc_50 pc)))))) (cond (Nat.ble 25 k) (cond (Nat.ble 37 k) (cond (Nat.ble 43 k) (cond (Nat.ble 46 k) (cond (Nat.ble 48 k) (cond (Nat.ble 49 k) (rc_49 pc) (rc_48 pc)) (cond (Nat.ble 47 k) (rc_47 pc) (rc_46 pc))) (cond (Nat.ble 44 k) (cond (Nat.ble 45 k) (rc_45 pc) (rc_44 pc)) (rc_43 pc))) (cond (Nat.ble 40 k) (cond (Nat.ble 41 k) (cond (Nat.ble 42 k) (rc_42 pc) (rc_41 pc)) (rc_40 pc)) (cond (Nat.ble 38 k) (cond (Nat.ble 39 k) (rc_39 pc) (rc_38 pc)) (rc_37 pc)))) (cond (Nat.ble 31 k) (cond (Nat.ble 34 k) (cond (Nat.ble 35 k) (cond (Nat.ble 36 k) (rc_36 pc) (rc_35 pc)) (rc_34 pc)) (cond (Nat.ble 32 k) (cond (Nat.ble 33 k) (rc_33 pc) (rc_32 pc)) (rc_31 pc))) (cond (Nat.ble 28 k) (cond (Nat.ble 29 k) (cond (Nat.ble 30 k) (rc_30 pc) (rc_29 pc)) (rc_28 pc)) (cond (Nat.ble 26 k) (cond (Nat.ble 27 k) (rc_27 pc) (rc_26 pc)) (rc_25 pc))))) (cond (Nat.ble 12 k) (cond (Nat.ble 18 k) (cond (Nat.ble 21 k) (cond (Nat.ble 23 k) (cond (Nat.ble 24 k) (rc_24 pc) (rc_23 pc)) (cond (Nat.ble 22 k) (rc_22 pc) (rc_21 pc))) (cond (Nat.ble 19 k) (cond (Nat.ble 20 k) (rc_20 pc) (rc_19 pc)) (rc_18 pc))) (cond (Nat.ble 15 k) (cond (Nat.ble 16 k) (cond (Nat.ble 17 k) (rc_17 pc) (rc_16 pc)) (rc_15 pc)) (cond (Nat.ble 13 k) (cond (Nat.ble 14 k) (rc_14 pc) (rc_13 pc)) (rc_12 pc)))) (cond (Nat.ble 6 k) (cond (Nat.ble 9 k) (cond (Nat.ble 10 k) (cond (Nat.ble 11 k) (rc_11 pc) (rc_10 pc)) (rc_9 pc)) (cond (Nat.ble 7 k) (cond (Nat.ble 8 k) (rc_8 pc) (rc_7 pc)) (rc_6 pc))) (cond (Nat.ble 3 k) (cond (Nat.ble 4 k) (cond (Nat.ble 5 k) (rc_5 pc) (rc_4 pc)) (rc_3 pc)) (cond (Nat.ble 1 k) (cond (Nat.ble 2 k) (rc_2 pc) (rc_1 pc)) (rc_0 pc)))))))
def mY (k : Nat) : MethodName := cond (Nat.ble 101 k) (cond (Nat.ble 152 k) (cond (Nat.ble 177 k) (cond (Nat.ble 190 k) (cond (Nat.ble 196 k) (cond (Nat.ble 199 k) (cond (Nat.ble 201 k) (cond (Nat.ble 202 k) (⟨"KingdomSurveyLaw", "law", "([I)Z"⟩) (⟨"KingdomSurveyModel", "trouble", "()I"⟩)) (cond (Nat.ble 200 k) (⟨"KingdomSurveyModel", "count", "(I)I"⟩) (⟨"KingdomSurveyModel", "led", "(I)I"⟩))) (cond (Nat.ble 197 k) (cond (Nat.ble 198 k) (⟨"KingdomSurveyModel", "worse", "(I)I"⟩) (⟨"KingdomSurveyModel", "spared", "()I"⟩)) (⟨"KingdomSurveyModel", "raised", "(I)I"⟩))) (cond (Nat.ble 193 k) (cond (Nat.ble 194 k) (cond (Nat.ble 195 k) (⟨"KingdomSurveyModel", "shareOf", "(I)I"⟩) (⟨"KingdomSurveyModel", "ratesOf", "(II)I"⟩)) (⟨"KingdomSurveyModel", "taxOf", "(II)I"⟩)) (cond (Nat.ble 191 k) (cond (Nat.ble 192 k) (⟨"KingdomSurveyModel", "tax", "(I)I"⟩) (⟨"KingdomSurveyModel", "rates", "(IIII)Z"⟩)) (⟨"KingdomSurveyModel", "sum", "(II)I"⟩)))) (cond (Nat.ble 183 k) (cond (Nat.ble 186 k) (cond (Nat.ble 188 k) (cond (Nat.ble 189 k) (⟨"KingdomSurveyModel", "greatest", "(I)I"⟩) (⟨"KingdomSurveyModel", "top", "(I)I"⟩)) (cond (Nat.ble 187 k) (⟨"KingdomSurveyModel", "under", "(I)I"⟩) (⟨"KingdomSurveyModel", "heldOf", "(IIZ)I"⟩))) (cond (Nat.ble 184 k) (cond (Nat.ble 185 k) (⟨"KingdomSurveyModel", "held", "(IIZ)I"⟩) (⟨"KingdomSurveyModel", "pair", "(IZ)I"⟩)) (⟨"KingdomSurveyModel", "difference", "()I"⟩))) (cond (Nat.ble 180 k) (cond (Nat.ble 181 k) (cond (Nat.ble 182 k) (⟨"KingdomSurveyModel", "apart", "(II)I"⟩) (⟨"KingdomSurveyModel", "pairs", "(IIII)V"⟩)) (⟨"java/lang/Math", "max", "(II)I"⟩)) (cond (Nat.ble 178 k) (cond (Nat.ble 179 k) (⟨"KingdomSurveyModel", "lay", "(II)I"⟩) (⟨"KingdomSurveyModel", "silence", "(I)I"⟩)) (⟨"KingdomSurveyModel", "silentAt", "(I)I"⟩))))) (cond (Nat.ble 164 k) (cond (Nat.ble 170 k) (cond (Nat.ble 173 k) (cond (Nat.ble 175 k) (cond (Nat.ble 176 k) (⟨"KingdomSurveyModel", "silent", "()I"⟩) (⟨"KingdomSurveyModel", "falls", "(I)I"⟩)) (cond (Nat.ble 174 k) (⟨"KingdomSurveyModel", "bits", "(I)I"⟩) (⟨"KingdomSurveyModel", "fall", "(I)I"⟩))) (cond (Nat.ble 171 k) (cond (Nat.ble 172 k) (⟨"KingdomSurveyModel", "over", "()I"⟩) (⟨"KingdomSurveyModel", "isClaim", "(I)Z"⟩)) (⟨"KingdomSurveyModel", "claimedIn", "(I)I"⟩))) (cond (Nat.ble 167 k) (cond (Nat.ble 168 k) (cond (Nat.ble 169 k) (⟨"KingdomSurveyModel", "isVillage", "(I)Z"⟩) (⟨"KingdomSurveyModel", "claimed", "(I)I"⟩)) (⟨"KingdomSurveyModel", "returned", "(II)I"⟩)) (cond (Nat.ble 165 k) (cond (Nat.ble 166 k) (⟨"KingdomSurveyModel", "entry", "(II)I"⟩) (⟨"KingdomSurveyModel", "where", "()I"⟩)) (⟨"KingdomSurveyModel", "fault", "()I"⟩)))) (cond (Nat.ble 158 k) (cond (Nat.ble 161 k) (cond (Nat.ble 162 k) (cond (Nat.ble 163 k) (⟨"KingdomSurveyModel", "told", "(II)I"⟩) (⟨"KingdomSurveyModel", "is", "(I)Z"⟩)) (⟨"KingdomSurveyModel", "thingHere", "()I"⟩)) (cond (Nat.ble 159 k) (cond (Nat.ble 160 k) (⟨"KingdomSurveyModel", "readItems", "(I)V"⟩) (⟨"KingdomSurveyModel", "stop", "(II)LKingdomSurveyModel$Stop;"⟩)) (⟨"KingdomSurveyModel", "wordOf", "(Ljava/lang/String;)J"⟩))) (cond (Nat.ble 155 k) (cond (Nat.ble 156 k) (cond (Nat.ble 157 k) (⟨"KingdomSurveyModel", "isWord", "(Ljava/lang/String;)Z"⟩) (⟨"KingdomSurveyModel", "reads", "(I)I"⟩)) (⟨"KingdomSurveyModel", "isDigit", "(I)Z"⟩)) (cond (Nat.ble 153 k) (cond (Nat.ble 154 k) (⟨"KingdomSurveyModel", "byteAt", "(I)I"⟩) (⟨"KingdomSurveyModel", "next", "()V"⟩)) (⟨"KingdomSurveyModel", "starts", "(I)V"⟩)))))) (cond (Nat.ble 126 k) (cond (Nat.ble 139 k) (cond (Nat.ble 145 k) (cond (Nat.ble 148 k) (cond (Nat.ble 150 k) (cond (Nat.ble 151 k) (⟨"KingdomSurveyModel", "takes", "(III)I"⟩) (⟨"KingdomSurveyModel", "sworn", "(II)I"⟩)) (cond (Nat.ble 149 k) (⟨"KingdomSurveyModel", "find", "(IZ)I"⟩) (⟨"KingdomSurveyModel", "granted", "()Z"⟩))) (cond (Nat.ble 146 k) (cond (Nat.ble 147 k) (⟨"KingdomSurveyModel", "isUnder", "(II)Z"⟩) (⟨"KingdomSurveyModel", "denied", "(I)Z"⟩)) (⟨"KingdomSurveyModel", "holds", "(II)Z"⟩))) (cond (Nat.ble 142 k) (cond (Nat.ble 143 k) (cond (Nat.ble 144 k) (⟨"KingdomSurveyModel", "lordOf", "(J)I"⟩) (⟨"KingdomSurveyModel", "isLord", "(I)Z"⟩)) (⟨"KingdomSurveyModel", "lord", "(II)I"⟩)) (cond (Nat.ble 140 k) (cond (Nat.ble 141 k) (⟨"KingdomSurveyModel", "villageOf", "(J)I"⟩) (⟨"KingdomSurveyModel", "isLetter", "(I)Z"⟩)) (⟨"KingdomSurveyModel", "oneWord", "(I)J"⟩)))) (cond (Nat.ble 132 k) (cond (Nat.ble 135 k) (cond (Nat.ble 137 k) (cond (Nat.ble 138 k) (⟨"KingdomSurveyModel", "isTaped", "(I)Z"⟩) (⟨"KingdomSurveyModel", "in", "(III)Z"⟩)) (cond (Nat.ble 136 k) (⟨"KingdomSurveyModel", "isHundred", "(I)Z"⟩) (⟨"KingdomSurveyModel", "village", "(III)I"⟩))) (cond (Nat.ble 133 k) (cond (Nat.ble 134 k) (⟨"KingdomSurveyModel", "done", "(I)I"⟩) (⟨"KingdomSurveyModel", "refused", "(I)I"⟩)) (⟨"KingdomSurveyModel", "hundred", "()I"⟩))) (cond (Nat.ble 129 k) (cond (Nat.ble 130 k) (cond (Nat.ble 131 k) (⟨"KingdomSurveyModel", "feed", "(IIIII)I"⟩) (⟨"java/lang/Throwable", "<init>", "(Ljava/lang/String;Ljava/lang/Throwable;ZZ)V"⟩)) (⟨"java/lang/Exception", "<init>", "(Ljava/lang/String;Ljava/lang/Throwable;ZZ)V"⟩)) (cond (Nat.ble 127 k) (cond (Nat.ble 128 k) (⟨"java/lang/RuntimeException", "<init>", "(Ljava/lang/String;Ljava/lang/Throwable;ZZ)V"⟩) (⟨"KingdomSurveyModel$Stop", "<init>", "()V"⟩)) (⟨"KingdomSurveyModel", "<init>", "()V"⟩))))) (cond (Nat.ble 113 k) (cond (Nat.ble 119 k) (cond (Nat.ble 122 k) (cond (Nat.ble 124 k) (cond (Nat.ble 125 k) (⟨"KingdomSurvey", "trouble", "()I"⟩) (⟨"KingdomSurvey", "allClaims", "()I"⟩)) (cond (Nat.ble 123 k) (⟨"KingdomSurvey", "count", "(I)I"⟩) (⟨"KingdomSurvey", "led", "(I)I"⟩))) (cond (Nat.ble 120 k) (cond (Nat.ble 121 k) (⟨"KingdomSurvey", "worse", "(I)I"⟩) (⟨"KingdomSurvey", "spared", "()I"⟩)) (⟨"KingdomSurvey", "leastRaise", "(I)I"⟩))) (cond (Nat.ble 116 k) (cond (Nat.ble 117 k) (cond (Nat.ble 118 k) (⟨"KingdomSurvey", "raised", "(I)I"⟩) (⟨"KingdomSurvey$Rates", "limitOf", "(LKingdomSurvey$Rolls;I)I"⟩)) (⟨"KingdomSurvey$Rates", "rateOf", "(LKingdomSurvey$Rolls;II)I"⟩)) (cond (Nat.ble 114 k) (cond (Nat.ble 115 k) (⟨"KingdomSurvey$Rates", "taxOn", "(LKingdomSurvey$Rolls;II)I"⟩) (⟨"KingdomSurvey", "taxOf", "(II)I"⟩)) (⟨"KingdomSurvey", "tax", "(I)I"⟩)))) (cond (Nat.ble 107 k) (cond (Nat.ble 110 k) (cond (Nat.ble 111 k) (cond (Nat.ble 112 k) (⟨"KingdomSurvey$Rates", "become", "(IIII)V"⟩) (⟨"KingdomSurvey", "rates", "(IIII)Z"⟩)) (⟨"KingdomSurvey", "sum", "(II)I"⟩)) (cond (Nat.ble 108 k) (cond (Nat.ble 109 k) (⟨"KingdomSurvey", "greatest", "(I)I"⟩) (⟨"KingdomSurvey$Lords", "highestOver", "(I)I"⟩)) (⟨"KingdomSurvey", "top", "(I)I"⟩))) (cond (Nat.ble 104 k) (cond (Nat.ble 105 k) (cond (Nat.ble 106 k) (⟨"KingdomSurvey", "under", "(I)I"⟩) (⟨"KingdomSurvey", "heldBy", "(IIZ)I"⟩)) (⟨"KingdomSurvey", "isThing", "(I)Z"⟩)) (cond (Nat.ble 102 k) (cond (Nat.ble 103 k) (⟨"KingdomSurvey", "held", "(IIZ)I"⟩) (⟨"KingdomSurvey$Laying", "ofPair", "(IZ)I"⟩)) (⟨"KingdomSurvey", "pair", "(IZ)I"⟩))))))) (cond (Nat.ble 50 k) (cond (Nat.ble 75 k) (cond (Nat.ble 88 k) (cond (Nat.ble 94 k) (cond (Nat.ble 97 k) (cond (Nat.ble 99 k) (cond (Nat.ble 100 k) (⟨"KingdomSurvey", "difference", "()I"⟩) (⟨"KingdomSurvey$Laying", "firstBest", "(II)I"⟩)) (cond (Nat.ble 98 k) (⟨"KingdomSurvey$Laying", "keepBest", "()V"⟩) (⟨"KingdomSurvey$Laying", "costOf", "(III)I"⟩))) (cond (Nat.ble 95 k) (cond (Nat.ble 96 k) (⟨"KingdomSurvey$Laying", "leastFrom", "(II)I"⟩) (⟨"KingdomSurvey$Laying", "weigh", "()V"⟩)) (⟨"java/lang/Math", "abs", "(I)I"⟩))) (cond (Nat.ble 91 k) (cond (Nat.ble 92 k) (cond (Nat.ble 93 k) (⟨"KingdomSurvey$Laying", "measure", "(LKingdomSurvey$Rolls;)V"⟩) (⟨"KingdomSurvey$Rolls", "tellerOf", "(I)I"⟩)) (⟨"KingdomSurvey$Laying", "gather", "(LKingdomSurvey$Rolls;II)V"⟩)) (cond (Nat.ble 89 k) (cond (Nat.ble 90 k) (⟨"KingdomSurvey$Laying", "layBeside", "(LKingdomSurvey$Rolls;II)I"⟩) (⟨"KingdomSurvey", "lay", "(II)I"⟩)) (⟨"KingdomSurvey", "silence", "(I)I"⟩)))) (cond (Nat.ble 81 k) (cond (Nat.ble 84 k) (cond (Nat.ble 86 k) (cond (Nat.ble 87 k) (⟨"KingdomSurvey", "silent", "()I"⟩) (⟨"KingdomSurvey$FewestFall", "fallen", "(I)I"⟩)) (cond (Nat.ble 85 k) (⟨"KingdomSurvey", "falls", "(I)I"⟩) (⟨"KingdomSurvey$FewestFall", "keep", "(I)V"⟩))) (cond (Nat.ble 82 k) (cond (Nat.ble 83 k) (⟨"KingdomSurvey$FewestFall", "hidesOfSet", "(I)I"⟩) (⟨"java/lang/Integer", "bitCount", "(I)I"⟩)) (⟨"KingdomSurvey$FewestFall", "bestSet", "(II)I"⟩))) (cond (Nat.ble 78 k) (cond (Nat.ble 79 k) (cond (Nat.ble 80 k) (⟨"KingdomSurvey$FewestFall", "bitOf", "(I)I"⟩) (⟨"KingdomSurvey$FewestFall", "greatestWithout", "(I)I"⟩)) (⟨"KingdomSurvey$FewestFall", "fewestFor", "(I)I"⟩)) (cond (Nat.ble 76 k) (cond (Nat.ble 77 k) (⟨"KingdomSurvey$FewestFall", "gather", "(LKingdomSurvey$Rolls;I)I"⟩) (⟨"KingdomSurvey$FewestFall", "choose", "(LKingdomSurvey$Rolls;II)I"⟩)) (⟨"KingdomSurvey", "claimsIn", "(I)I"⟩))))) (cond (Nat.ble 62 k) (cond (Nat.ble 68 k) (cond (Nat.ble 71 k) (cond (Nat.ble 73 k) (cond (Nat.ble 74 k) (⟨"KingdomSurvey", "fall", "(I)I"⟩) (⟨"KingdomSurvey$Villages", "hidesOf", "(I)I"⟩)) (cond (Nat.ble 72 k) (⟨"KingdomSurvey", "over", "()I"⟩) (⟨"KingdomSurvey$Rolls", "juryOf", "(I)I"⟩))) (cond (Nat.ble 69 k) (cond (Nat.ble 70 k) (⟨"KingdomSurvey$Rolls", "isClaim", "(I)Z"⟩) (⟨"KingdomSurvey$Rolls", "isClaimIn", "(II)Z"⟩)) (⟨"KingdomSurvey", "claimedHides", "(I)I"⟩))) (cond (Nat.ble 65 k) (cond (Nat.ble 66 k) (cond (Nat.ble 67 k) (⟨"KingdomSurvey", "claimed", "(I)I"⟩) (⟨"KingdomSurvey", "find", "(IZ)I"⟩)) (⟨"KingdomSurvey$Rolls", "ofReturn", "(II)I"⟩)) (cond (Nat.ble 63 k) (cond (Nat.ble 64 k) (⟨"KingdomSurvey", "returned", "(II)I"⟩) (⟨"KingdomSurvey$Rolls", "ofEntry", "(II)I"⟩)) (⟨"KingdomSurvey", "entry", "(II)I"⟩)))) (cond (Nat.ble 56 k) (cond (Nat.ble 59 k) (cond (Nat.ble 60 k) (cond (Nat.ble 61 k) (⟨"KingdomSurvey", "where", "()I"⟩) (⟨"KingdomSurvey", "fault", "()I"⟩)) (⟨"KingdomSurvey", "told", "(II)I"⟩)) (cond (Nat.ble 57 k) (cond (Nat.ble 58 k) (⟨"KingdomSurvey$Rolls", "take", "(LKingdomSurvey$Reader;II)I"⟩) (⟨"KingdomSurvey", "settle", "(ZII)I"⟩)) (⟨"KingdomSurvey$Reader", "thingInHand", "()I"⟩))) (cond (Nat.ble 53 k) (cond (Nat.ble 54 k) (cond (Nat.ble 55 k) (⟨"KingdomSurvey$Reader", "numberInHand", "()I"⟩) (⟨"KingdomSurvey$Reader", "readItems", "()Z"⟩)) (⟨"KingdomSurvey$Reader", "draftEntry", "(II)V"⟩)) (cond (Nat.ble 51 k) (cond (Nat.ble 52 k) (⟨"KingdomSurvey$Villages", "hundredOf", "(I)I"⟩) (⟨"KingdomSurvey$Reader", "blame", "(I)Z"⟩)) (⟨"jdk/internal/util/Preconditions", "checkIndex", "(IILjava/util/function/BiFunction;)I"⟩)))))) (cond (Nat.ble 25 k) (cond (Nat.ble 37 k) (cond (Nat.ble 43 k) (cond (Nat.ble 46 k) (cond (Nat.ble 48 k) (cond (Nat.ble 49 k) (⟨"java/lang/String", "checkIndex", "(II)V"⟩) (⟨"java/lang/StringLatin1", "charAt", "([BI)C"⟩)) (cond (Nat.ble 47 k) (⟨"java/lang/String", "isLatin1", "()Z"⟩) (⟨"java/lang/String", "charAt", "(I)C"⟩))) (cond (Nat.ble 44 k) (cond (Nat.ble 45 k) (⟨"java/lang/String", "coder", "()B"⟩) (⟨"java/lang/String", "length", "()I"⟩)) (⟨"KingdomSurvey$Reader", "says", "(Ljava/lang/String;)Z"⟩))) (cond (Nat.ble 40 k) (cond (Nat.ble 41 k) (cond (Nat.ble 42 k) (⟨"KingdomSurvey$Reader", "readEntry", "(I)Z"⟩) (⟨"KingdomSurvey$Reader", "step", "()V"⟩)) (⟨"KingdomSurvey$Reader", "readText", "(II)Z"⟩)) (cond (Nat.ble 38 k) (cond (Nat.ble 39 k) (⟨"KingdomSurvey", "sworn", "(II)I"⟩) (⟨"KingdomSurvey$Lords", "overlordOf", "(I)I"⟩)) (⟨"KingdomSurvey$Lords", "isBelow", "(II)Z"⟩)))) (cond (Nat.ble 31 k) (cond (Nat.ble 34 k) (cond (Nat.ble 35 k) (cond (Nat.ble 36 k) (⟨"KingdomSurvey", "holds", "(II)Z"⟩) (⟨"KingdomSurvey$Lords", "putUnder", "(II)V"⟩)) (⟨"KingdomSurvey$Lords", "enter", "(LKingdomSurvey$Tape;II)V"⟩)) (cond (Nat.ble 32 k) (cond (Nat.ble 33 k) (⟨"KingdomSurvey$Lords", "has", "(I)Z"⟩) (⟨"KingdomSurvey", "lord", "(II)I"⟩)) (⟨"KingdomSurvey$Tape", "clear", "()V"⟩))) (cond (Nat.ble 28 k) (cond (Nat.ble 29 k) (cond (Nat.ble 30 k) (⟨"KingdomSurvey", "answerNamed", "(LKingdomSurvey$Names;I)I"⟩) (⟨"KingdomSurvey$Villages", "has", "(I)Z"⟩)) (⟨"KingdomSurvey$Names", "write", "(LKingdomSurvey$Tape;I)I"⟩)) (cond (Nat.ble 26 k) (cond (Nat.ble 27 k) (⟨"KingdomSurvey$Villages", "enter", "(LKingdomSurvey$Tape;III)V"⟩) (⟨"KingdomSurvey$Names", "isSpelled", "(ILKingdomSurvey$Tape;I)Z"⟩)) (⟨"KingdomSurvey$Names", "numberOf", "(LKingdomSurvey$Tape;II)I"⟩))))) (cond (Nat.ble 12 k) (cond (Nat.ble 18 k) (cond (Nat.ble 21 k) (cond (Nat.ble 23 k) (cond (Nat.ble 24 k) (⟨"KingdomSurvey$Tape", "byteAt", "(I)I"⟩) (⟨"KingdomSurvey$Tape", "signAt", "(I)I"⟩)) (cond (Nat.ble 22 k) (⟨"KingdomSurvey$Names", "isName", "(LKingdomSurvey$Tape;I)Z"⟩) (⟨"KingdomSurvey$Names", "troubleWith", "(LKingdomSurvey$Tape;I)I"⟩))) (cond (Nat.ble 19 k) (cond (Nat.ble 20 k) (⟨"KingdomSurvey", "isWithin", "(II)Z"⟩) (⟨"KingdomSurvey$Tape", "hasFirst", "(I)Z"⟩)) (⟨"KingdomSurvey", "isHundred", "(I)Z"⟩))) (cond (Nat.ble 15 k) (cond (Nat.ble 16 k) (cond (Nat.ble 17 k) (⟨"KingdomSurvey", "village", "(III)I"⟩) (⟨"KingdomSurvey$Tape", "append", "(I)V"⟩)) (⟨"KingdomSurvey$Tape", "hasRoomFor", "(I)Z"⟩)) (cond (Nat.ble 13 k) (cond (Nat.ble 14 k) (⟨"KingdomSurvey", "feed", "(IIIII)I"⟩) (⟨"KingdomSurvey", "allow", "(I)I"⟩)) (⟨"KingdomSurvey", "refuse", "(I)I"⟩)))) (cond (Nat.ble 6 k) (cond (Nat.ble 9 k) (cond (Nat.ble 10 k) (cond (Nat.ble 11 k) (⟨"KingdomSurvey", "hundred", "()I"⟩) (⟨"KingdomSurvey$Rates", "<init>", "()V"⟩)) (⟨"KingdomSurvey$Laying", "<init>", "()V"⟩)) (cond (Nat.ble 7 k) (cond (Nat.ble 8 k) (⟨"KingdomSurvey$FewestFall", "<init>", "()V"⟩) (⟨"KingdomSurvey$Reader", "<init>", "(LKingdomSurvey$Tape;LKingdomSurvey$Villages;LKingdomSurvey$Lords;)V"⟩)) (⟨"KingdomSurvey$Rolls", "<init>", "()V"⟩))) (cond (Nat.ble 3 k) (cond (Nat.ble 4 k) (cond (Nat.ble 5 k) (⟨"KingdomSurvey$Lords", "<init>", "()V"⟩) (⟨"java/lang/Math", "min", "(II)I"⟩)) (⟨"KingdomSurvey$Names", "<init>", "(I)V"⟩)) (cond (Nat.ble 1 k) (cond (Nat.ble 2 k) (⟨"KingdomSurvey$Villages", "<init>", "()V"⟩) (⟨"KingdomSurvey$Tape", "<init>", "()V"⟩)) (⟨"KingdomSurvey", "<init>", "()V"⟩)))))))
def mB (k : Nat) : ByteArray := cond (Nat.ble 101 k) (cond (Nat.ble 152 k) (cond (Nat.ble 177 k) (cond (Nat.ble 190 k) (cond (Nat.ble 196 k) (cond (Nat.ble 199 k) (cond (Nat.ble 201 k) (cond (Nat.ble 202 k) (code) (prog_12_method_72_code)) (cond (Nat.ble 200 k) (prog_12_method_71_code) (prog_12_method_70_code))) (cond (Nat.ble 197 k) (cond (Nat.ble 198 k) (prog_12_method_69_code) (prog_12_method_68_code)) (prog_12_method_67_code))) (cond (Nat.ble 193 k) (cond (Nat.ble 194 k) (cond (Nat.ble 195 k) (prog_12_method_64_code) (prog_12_method_63_code)) (prog_12_method_65_code)) (cond (Nat.ble 191 k) (cond (Nat.ble 192 k) (prog_12_method_66_code) (prog_12_method_62_code)) (prog_12_method_61_code)))) (cond (Nat.ble 183 k) (cond (Nat.ble 186 k) (cond (Nat.ble 188 k) (cond (Nat.ble 189 k) (prog_12_method_60_code) (prog_12_method_59_code)) (cond (Nat.ble 187 k) (prog_12_method_58_code) (prog_12_method_56_code))) (cond (Nat.ble 184 k) (cond (Nat.ble 185 k) (prog_12_method_57_code) (prog_12_method_55_code)) (prog_12_method_54_code))) (cond (Nat.ble 180 k) (cond (Nat.ble 181 k) (cond (Nat.ble 182 k) (prog_12_method_51_code) (prog_12_method_52_code)) (prog_16_method_65_code)) (cond (Nat.ble 178 k) (cond (Nat.ble 179 k) (prog_12_method_53_code) (prog_12_method_50_code)) (prog_12_method_48_code))))) (cond (Nat.ble 164 k) (cond (Nat.ble 170 k) (cond (Nat.ble 173 k) (cond (Nat.ble 175 k) (cond (Nat.ble 176 k) (prog_12_method_49_code) (prog_12_method_47_code)) (cond (Nat.ble 174 k) (prog_12_method_8_code) (prog_12_method_46_code))) (cond (Nat.ble 171 k) (cond (Nat.ble 172 k) (prog_12_method_45_code) (prog_12_method_42_code)) (prog_12_method_43_code))) (cond (Nat.ble 167 k) (cond (Nat.ble 168 k) (cond (Nat.ble 169 k) (prog_12_method_22_code) (prog_12_method_44_code)) (prog_12_method_41_code)) (cond (Nat.ble 165 k) (cond (Nat.ble 166 k) (prog_12_method_40_code) (prog_12_method_39_code)) (prog_12_method_38_code)))) (cond (Nat.ble 158 k) (cond (Nat.ble 161 k) (cond (Nat.ble 162 k) (cond (Nat.ble 163 k) (prog_12_method_37_code) (prog_12_method_17_code)) (prog_12_method_32_code)) (cond (Nat.ble 159 k) (cond (Nat.ble 160 k) (prog_12_method_34_code) (prog_12_method_9_code)) (prog_12_method_13_code))) (cond (Nat.ble 155 k) (cond (Nat.ble 156 k) (cond (Nat.ble 157 k) (prog_12_method_16_code) (prog_12_method_33_code)) (prog_12_method_12_code)) (cond (Nat.ble 153 k) (cond (Nat.ble 154 k) (prog_12_method_10_code) (prog_12_method_14_code)) (prog_12_method_15_code)))))) (cond (Nat.ble 126 k) (cond (Nat.ble 139 k) (cond (Nat.ble 145 k) (cond (Nat.ble 148 k) (cond (Nat.ble 150 k) (cond (Nat.ble 151 k) (prog_12_method_35_code) (prog_12_method_36_code)) (cond (Nat.ble 149 k) (prog_12_method_31_code) (prog_12_method_6_code))) (cond (Nat.ble 146 k) (cond (Nat.ble 147 k) (prog_12_method_29_code) (prog_12_method_4_code)) (prog_12_method_30_code))) (cond (Nat.ble 142 k) (cond (Nat.ble 143 k) (cond (Nat.ble 144 k) (prog_12_method_25_code) (prog_12_method_23_code)) (prog_12_method_28_code)) (cond (Nat.ble 140 k) (cond (Nat.ble 141 k) (prog_12_method_24_code) (prog_12_method_11_code)) (prog_12_method_20_code)))) (cond (Nat.ble 132 k) (cond (Nat.ble 135 k) (cond (Nat.ble 137 k) (cond (Nat.ble 138 k) (prog_12_method_19_code) (prog_12_method_7_code)) (cond (Nat.ble 136 k) (prog_12_method_21_code) (prog_12_method_27_code))) (cond (Nat.ble 133 k) (cond (Nat.ble 134 k) (prog_12_method_5_code) (prog_12_method_3_code)) (prog_12_method_26_code))) (cond (Nat.ble 129 k) (cond (Nat.ble 130 k) (cond (Nat.ble 131 k) (prog_12_method_18_code) (prog_21_method_5_code)) (prog_14_method_5_code)) (cond (Nat.ble 127 k) (cond (Nat.ble 128 k) (prog_17_method_5_code) (prog_13_method_1_code)) (prog_12_method_1_code))))) (cond (Nat.ble 113 k) (cond (Nat.ble 119 k) (cond (Nat.ble 122 k) (cond (Nat.ble 124 k) (cond (Nat.ble 125 k) (prog_1_method_35_code) (prog_1_method_45_code)) (cond (Nat.ble 123 k) (prog_1_method_34_code) (prog_1_method_33_code))) (cond (Nat.ble 120 k) (cond (Nat.ble 121 k) (prog_1_method_32_code) (prog_1_method_31_code)) (prog_1_method_48_code))) (cond (Nat.ble 116 k) (cond (Nat.ble 117 k) (cond (Nat.ble 118 k) (prog_1_method_30_code) (prog_6_method_4_code)) (prog_6_method_3_code)) (cond (Nat.ble 114 k) (cond (Nat.ble 115 k) (prog_6_method_5_code) (prog_1_method_47_code)) (prog_1_method_29_code)))) (cond (Nat.ble 107 k) (cond (Nat.ble 110 k) (cond (Nat.ble 111 k) (cond (Nat.ble 112 k) (prog_6_method_2_code) (prog_1_method_28_code)) (prog_1_method_27_code)) (cond (Nat.ble 108 k) (cond (Nat.ble 109 k) (prog_1_method_26_code) (prog_4_method_7_code)) (prog_1_method_25_code))) (cond (Nat.ble 104 k) (cond (Nat.ble 105 k) (cond (Nat.ble 106 k) (prog_1_method_24_code) (prog_1_method_46_code)) (prog_1_method_40_code)) (cond (Nat.ble 102 k) (cond (Nat.ble 103 k) (prog_1_method_23_code) (prog_3_method_2_code)) (prog_1_method_22_code))))))) (cond (Nat.ble 50 k) (cond (Nat.ble 75 k) (cond (Nat.ble 88 k) (cond (Nat.ble 94 k) (cond (Nat.ble 97 k) (cond (Nat.ble 99 k) (cond (Nat.ble 100 k) (prog_1_method_21_code) (prog_3_method_10_code)) (cond (Nat.ble 98 k) (prog_3_method_9_code) (prog_3_method_8_code))) (cond (Nat.ble 95 k) (cond (Nat.ble 96 k) (prog_3_method_7_code) (prog_3_method_6_code)) (prog_16_method_59_code))) (cond (Nat.ble 91 k) (cond (Nat.ble 92 k) (cond (Nat.ble 93 k) (prog_3_method_5_code) (prog_8_method_5_code)) (prog_3_method_4_code)) (cond (Nat.ble 89 k) (cond (Nat.ble 90 k) (prog_3_method_3_code) (prog_1_method_20_code)) (prog_1_method_19_code)))) (cond (Nat.ble 81 k) (cond (Nat.ble 84 k) (cond (Nat.ble 86 k) (cond (Nat.ble 87 k) (prog_1_method_18_code) (prog_2_method_2_code)) (cond (Nat.ble 85 k) (prog_1_method_17_code) (prog_2_method_9_code))) (cond (Nat.ble 82 k) (cond (Nat.ble 83 k) (prog_2_method_8_code) (prog_15_method_49_code)) (prog_2_method_7_code))) (cond (Nat.ble 78 k) (cond (Nat.ble 79 k) (cond (Nat.ble 80 k) (prog_2_method_10_code) (prog_2_method_6_code)) (prog_2_method_5_code)) (cond (Nat.ble 76 k) (cond (Nat.ble 77 k) (prog_2_method_4_code) (prog_2_method_3_code)) (prog_1_method_44_code))))) (cond (Nat.ble 62 k) (cond (Nat.ble 68 k) (cond (Nat.ble 71 k) (cond (Nat.ble 73 k) (cond (Nat.ble 74 k) (prog_1_method_16_code) (prog_10_method_5_code)) (cond (Nat.ble 72 k) (prog_1_method_15_code) (prog_8_method_4_code))) (cond (Nat.ble 69 k) (cond (Nat.ble 70 k) (prog_8_method_6_code) (prog_8_method_7_code)) (prog_1_method_43_code))) (cond (Nat.ble 65 k) (cond (Nat.ble 66 k) (cond (Nat.ble 67 k) (prog_1_method_14_code) (prog_1_method_13_code)) (prog_8_method_3_code)) (cond (Nat.ble 63 k) (cond (Nat.ble 64 k) (prog_1_method_12_code) (prog_8_method_2_code)) (prog_1_method_11_code)))) (cond (Nat.ble 56 k) (cond (Nat.ble 59 k) (cond (Nat.ble 60 k) (cond (Nat.ble 61 k) (prog_1_method_10_code) (prog_1_method_9_code)) (prog_1_method_8_code)) (cond (Nat.ble 57 k) (cond (Nat.ble 58 k) (prog_8_method_8_code) (prog_1_method_42_code)) (prog_7_method_10_code))) (cond (Nat.ble 53 k) (cond (Nat.ble 54 k) (cond (Nat.ble 55 k) (prog_7_method_9_code) (prog_7_method_5_code)) (prog_7_method_4_code)) (cond (Nat.ble 51 k) (cond (Nat.ble 52 k) (prog_10_method_4_code) (prog_7_method_6_code)) (prog_22_method_11_code)))))) (cond (Nat.ble 25 k) (cond (Nat.ble 37 k) (cond (Nat.ble 43 k) (cond (Nat.ble 46 k) (cond (Nat.ble 48 k) (cond (Nat.ble 49 k) (prog_18_method_155_code) (prog_19_method_2_code)) (cond (Nat.ble 47 k) (prog_18_method_154_code) (prog_18_method_56_code))) (cond (Nat.ble 44 k) (cond (Nat.ble 45 k) (prog_18_method_152_code) (prog_18_method_54_code)) (prog_7_method_8_code))) (cond (Nat.ble 40 k) (cond (Nat.ble 41 k) (cond (Nat.ble 42 k) (prog_7_method_3_code) (prog_7_method_7_code)) (prog_7_method_2_code)) (cond (Nat.ble 38 k) (cond (Nat.ble 39 k) (prog_1_method_7_code) (prog_4_method_5_code)) (prog_4_method_6_code)))) (cond (Nat.ble 31 k) (cond (Nat.ble 34 k) (cond (Nat.ble 35 k) (cond (Nat.ble 36 k) (prog_1_method_6_code) (prog_4_method_4_code)) (prog_4_method_3_code)) (cond (Nat.ble 32 k) (cond (Nat.ble 33 k) (prog_4_method_2_code) (prog_1_method_5_code)) (prog_9_method_5_code))) (cond (Nat.ble 28 k) (cond (Nat.ble 29 k) (cond (Nat.ble 30 k) (prog_1_method_38_code) (prog_10_method_2_code)) (prog_5_method_6_code)) (cond (Nat.ble 26 k) (cond (Nat.ble 27 k) (prog_10_method_3_code) (prog_5_method_5_code)) (prog_5_method_4_code))))) (cond (Nat.ble 12 k) (cond (Nat.ble 18 k) (cond (Nat.ble 21 k) (cond (Nat.ble 23 k) (cond (Nat.ble 24 k) (prog_9_method_6_code) (prog_9_method_7_code)) (cond (Nat.ble 22 k) (prog_5_method_3_code) (prog_5_method_2_code))) (cond (Nat.ble 19 k) (cond (Nat.ble 20 k) (prog_1_method_41_code) (prog_9_method_4_code)) (prog_1_method_39_code))) (cond (Nat.ble 15 k) (cond (Nat.ble 16 k) (cond (Nat.ble 17 k) (prog_1_method_4_code) (prog_9_method_3_code)) (prog_9_method_2_code)) (cond (Nat.ble 13 k) (cond (Nat.ble 14 k) (prog_1_method_3_code) (prog_1_method_37_code)) (prog_1_method_36_code)))) (cond (Nat.ble 6 k) (cond (Nat.ble 9 k) (cond (Nat.ble 10 k) (cond (Nat.ble 11 k) (prog_1_method_2_code) (prog_6_method_1_code)) (prog_3_method_1_code)) (cond (Nat.ble 7 k) (cond (Nat.ble 8 k) (prog_2_method_1_code) (prog_7_method_1_code)) (prog_8_method_1_code))) (cond (Nat.ble 3 k) (cond (Nat.ble 4 k) (cond (Nat.ble 5 k) (prog_4_method_1_code) (prog_16_method_69_code)) (prog_5_method_1_code)) (cond (Nat.ble 1 k) (cond (Nat.ble 2 k) (prog_10_method_1_code) (prog_9_method_1_code)) (prog_1_method_1_code)))))))
def mL (k : Nat) : Nat := cond (Nat.ble 101 k) (cond (Nat.ble 152 k) (cond (Nat.ble 177 k) (cond (Nat.ble 190 k) (cond (Nat.ble 196 k) (cond (Nat.ble 199 k) (cond (Nat.ble 201 k) (cond (Nat.ble 202 k) (4) (1)) (cond (Nat.ble 200 k) (4) (4))) (cond (Nat.ble 197 k) (cond (Nat.ble 198 k) (4) (3)) (3))) (cond (Nat.ble 193 k) (cond (Nat.ble 194 k) (cond (Nat.ble 195 k) (2) (3)) (5)) (cond (Nat.ble 191 k) (cond (Nat.ble 192 k) (2) (5)) (5)))) (cond (Nat.ble 183 k) (cond (Nat.ble 186 k) (cond (Nat.ble 188 k) (cond (Nat.ble 189 k) (4) (3)) (cond (Nat.ble 187 k) (4) (6))) (cond (Nat.ble 184 k) (cond (Nat.ble 185 k) (4) (3)) (1))) (cond (Nat.ble 180 k) (cond (Nat.ble 181 k) (cond (Nat.ble 182 k) (5) (6)) (2)) (cond (Nat.ble 178 k) (cond (Nat.ble 179 k) (4) (2)) (6))))) (cond (Nat.ble 164 k) (cond (Nat.ble 170 k) (cond (Nat.ble 173 k) (cond (Nat.ble 175 k) (cond (Nat.ble 176 k) (2) (2)) (cond (Nat.ble 174 k) (3) (11))) (cond (Nat.ble 171 k) (cond (Nat.ble 172 k) (3) (2)) (4))) (cond (Nat.ble 167 k) (cond (Nat.ble 168 k) (cond (Nat.ble 169 k) (2) (2)) (3)) (cond (Nat.ble 165 k) (cond (Nat.ble 166 k) (3) (1)) (1)))) (cond (Nat.ble 158 k) (cond (Nat.ble 161 k) (cond (Nat.ble 162 k) (cond (Nat.ble 163 k) (3) (2)) (1)) (cond (Nat.ble 159 k) (cond (Nat.ble 160 k) (6) (3)) (4))) (cond (Nat.ble 155 k) (cond (Nat.ble 156 k) (cond (Nat.ble 157 k) (2) (4)) (1)) (cond (Nat.ble 153 k) (cond (Nat.ble 154 k) (2) (3)) (2)))))) (cond (Nat.ble 126 k) (cond (Nat.ble 139 k) (cond (Nat.ble 145 k) (cond (Nat.ble 148 k) (cond (Nat.ble 150 k) (cond (Nat.ble 151 k) (6) (3)) (cond (Nat.ble 149 k) (5) (1))) (cond (Nat.ble 146 k) (cond (Nat.ble 147 k) (4) (2)) (3))) (cond (Nat.ble 142 k) (cond (Nat.ble 143 k) (cond (Nat.ble 144 k) (4) (2)) (5)) (cond (Nat.ble 140 k) (cond (Nat.ble 141 k) (4) (1)) (6)))) (cond (Nat.ble 132 k) (cond (Nat.ble 135 k) (cond (Nat.ble 137 k) (cond (Nat.ble 138 k) (2) (3)) (cond (Nat.ble 136 k) (2) (6))) (cond (Nat.ble 133 k) (cond (Nat.ble 134 k) (2) (2)) (1))) (cond (Nat.ble 129 k) (cond (Nat.ble 130 k) (cond (Nat.ble 131 k) (8) (5)) (5)) (cond (Nat.ble 127 k) (cond (Nat.ble 128 k) (5) (1)) (1))))) (cond (Nat.ble 113 k) (cond (Nat.ble 119 k) (cond (Nat.ble 122 k) (cond (Nat.ble 124 k) (cond (Nat.ble 125 k) (1) (3)) (cond (Nat.ble 123 k) (2) (4))) (cond (Nat.ble 120 k) (cond (Nat.ble 121 k) (4) (3)) (5))) (cond (Nat.ble 116 k) (cond (Nat.ble 117 k) (cond (Nat.ble 118 k) (3) (3)) (4)) (cond (Nat.ble 114 k) (cond (Nat.ble 115 k) (4) (5)) (2)))) (cond (Nat.ble 107 k) (cond (Nat.ble 110 k) (cond (Nat.ble 111 k) (cond (Nat.ble 112 k) (5) (6)) (5)) (cond (Nat.ble 108 k) (cond (Nat.ble 109 k) (6) (4)) (2))) (cond (Nat.ble 104 k) (cond (Nat.ble 105 k) (cond (Nat.ble 106 k) (4) (7)) (1)) (cond (Nat.ble 102 k) (cond (Nat.ble 103 k) (4) (3)) (3))))))) (cond (Nat.ble 50 k) (cond (Nat.ble 75 k) (cond (Nat.ble 88 k) (cond (Nat.ble 94 k) (cond (Nat.ble 97 k) (cond (Nat.ble 99 k) (cond (Nat.ble 100 k) (1) (4)) (cond (Nat.ble 98 k) (4) (4))) (cond (Nat.ble 95 k) (cond (Nat.ble 96 k) (5) (3)) (1))) (cond (Nat.ble 91 k) (cond (Nat.ble 92 k) (cond (Nat.ble 93 k) (6) (2)) (5)) (cond (Nat.ble 89 k) (cond (Nat.ble 90 k) (4) (3)) (4)))) (cond (Nat.ble 81 k) (cond (Nat.ble 84 k) (cond (Nat.ble 86 k) (cond (Nat.ble 87 k) (3) (2)) (cond (Nat.ble 85 k) (2) (3))) (cond (Nat.ble 82 k) (cond (Nat.ble 83 k) (4) (1)) (7))) (cond (Nat.ble 78 k) (cond (Nat.ble 79 k) (cond (Nat.ble 80 k) (2) (5)) (6)) (cond (Nat.ble 76 k) (cond (Nat.ble 77 k) (5) (5)) (4))))) (cond (Nat.ble 62 k) (cond (Nat.ble 68 k) (cond (Nat.ble 71 k) (cond (Nat.ble 73 k) (cond (Nat.ble 74 k) (2) (2)) (cond (Nat.ble 72 k) (3) (2))) (cond (Nat.ble 69 k) (cond (Nat.ble 70 k) (2) (3)) (4))) (cond (Nat.ble 65 k) (cond (Nat.ble 66 k) (cond (Nat.ble 67 k) (2) (5)) (4)) (cond (Nat.ble 63 k) (cond (Nat.ble 64 k) (3) (4)) (3)))) (cond (Nat.ble 56 k) (cond (Nat.ble 59 k) (cond (Nat.ble 60 k) (cond (Nat.ble 61 k) (1) (1)) (3)) (cond (Nat.ble 57 k) (cond (Nat.ble 58 k) (7) (5)) (1))) (cond (Nat.ble 53 k) (cond (Nat.ble 54 k) (cond (Nat.ble 55 k) (3) (5)) (4)) (cond (Nat.ble 51 k) (cond (Nat.ble 52 k) (2) (2)) (3)))))) (cond (Nat.ble 25 k) (cond (Nat.ble 37 k) (cond (Nat.ble 43 k) (cond (Nat.ble 46 k) (cond (Nat.ble 48 k) (cond (Nat.ble 49 k) (2) (2)) (cond (Nat.ble 47 k) (1) (2))) (cond (Nat.ble 44 k) (cond (Nat.ble 45 k) (1) (1)) (3))) (cond (Nat.ble 40 k) (cond (Nat.ble 41 k) (cond (Nat.ble 42 k) (4) (2)) (4)) (cond (Nat.ble 38 k) (cond (Nat.ble 39 k) (3) (2)) (5)))) (cond (Nat.ble 31 k) (cond (Nat.ble 34 k) (cond (Nat.ble 35 k) (cond (Nat.ble 36 k) (3) (3)) (4)) (cond (Nat.ble 32 k) (cond (Nat.ble 33 k) (2) (4)) (1))) (cond (Nat.ble 28 k) (cond (Nat.ble 29 k) (cond (Nat.ble 30 k) (3) (2)) (4)) (cond (Nat.ble 26 k) (cond (Nat.ble 27 k) (6) (5)) (5))))) (cond (Nat.ble 12 k) (cond (Nat.ble 18 k) (cond (Nat.ble 21 k) (cond (Nat.ble 23 k) (cond (Nat.ble 24 k) (2) (3)) (cond (Nat.ble 22 k) (3) (3))) (cond (Nat.ble 19 k) (cond (Nat.ble 20 k) (2) (2)) (2))) (cond (Nat.ble 15 k) (cond (Nat.ble 16 k) (cond (Nat.ble 17 k) (5) (3)) (2)) (cond (Nat.ble 13 k) (cond (Nat.ble 14 k) (6) (2)) (2)))) (cond (Nat.ble 6 k) (cond (Nat.ble 9 k) (cond (Nat.ble 10 k) (cond (Nat.ble 11 k) (1) (1)) (1)) (cond (Nat.ble 7 k) (cond (Nat.ble 8 k) (1) (4)) (1))) (cond (Nat.ble 3 k) (cond (Nat.ble 4 k) (cond (Nat.ble 5 k) (1) (2)) (2)) (cond (Nat.ble 1 k) (cond (Nat.ble 2 k) (1) (1)) (1)))))))
def mR (k : Nat) : Option FieldType := cond (Nat.ble 101 k) (cond (Nat.ble 152 k) (cond (Nat.ble 177 k) (cond (Nat.ble 190 k) (cond (Nat.ble 196 k) (cond (Nat.ble 199 k) (cond (Nat.ble 201 k) (cond (Nat.ble 202 k) ((some .boolean)) ((some .int))) (cond (Nat.ble 200 k) ((some .int)) ((some .int)))) (cond (Nat.ble 197 k) (cond (Nat.ble 198 k) ((some .int)) ((some .int))) ((some .int)))) (cond (Nat.ble 193 k) (cond (Nat.ble 194 k) (cond (Nat.ble 195 k) ((some .int)) ((some .int))) ((some .int))) (cond (Nat.ble 191 k) (cond (Nat.ble 192 k) ((some .int)) ((some .boolean))) ((some .int))))) (cond (Nat.ble 183 k) (cond (Nat.ble 186 k) (cond (Nat.ble 188 k) (cond (Nat.ble 189 k) ((some .int)) ((some .int))) (cond (Nat.ble 187 k) ((some .int)) ((some .int)))) (cond (Nat.ble 184 k) (cond (Nat.ble 185 k) ((some .int)) ((some .int))) ((some .int)))) (cond (Nat.ble 180 k) (cond (Nat.ble 181 k) (cond (Nat.ble 182 k) ((some .int)) (none)) ((some .int))) (cond (Nat.ble 178 k) (cond (Nat.ble 179 k) ((some .int)) ((some .int))) ((some .int)))))) (cond (Nat.ble 164 k) (cond (Nat.ble 170 k) (cond (Nat.ble 173 k) (cond (Nat.ble 175 k) (cond (Nat.ble 176 k) ((some .int)) ((some .int))) (cond (Nat.ble 174 k) ((some .int)) ((some .int)))) (cond (Nat.ble 171 k) (cond (Nat.ble 172 k) ((some .int)) ((some .boolean))) ((some .int)))) (cond (Nat.ble 167 k) (cond (Nat.ble 168 k) (cond (Nat.ble 169 k) ((some .boolean)) ((some .int))) ((some .int))) (cond (Nat.ble 165 k) (cond (Nat.ble 166 k) ((some .int)) ((some .int))) ((some .int))))) (cond (Nat.ble 158 k) (cond (Nat.ble 161 k) (cond (Nat.ble 162 k) (cond (Nat.ble 163 k) ((some .int)) ((some .boolean))) ((some .int))) (cond (Nat.ble 159 k) (cond (Nat.ble 160 k) (none) ((some (.object "KingdomSurveyModel$Stop")))) ((some .long)))) (cond (Nat.ble 155 k) (cond (Nat.ble 156 k) (cond (Nat.ble 157 k) ((some .boolean)) ((some .int))) ((some .boolean))) (cond (Nat.ble 153 k) (cond (Nat.ble 154 k) ((some .int)) (none)) (none)))))) (cond (Nat.ble 126 k) (cond (Nat.ble 139 k) (cond (Nat.ble 145 k) (cond (Nat.ble 148 k) (cond (Nat.ble 150 k) (cond (Nat.ble 151 k) ((some .int)) ((some .int))) (cond (Nat.ble 149 k) ((some .int)) ((some .boolean)))) (cond (Nat.ble 146 k) (cond (Nat.ble 147 k) ((some .boolean)) ((some .boolean))) ((some .boolean)))) (cond (Nat.ble 142 k) (cond (Nat.ble 143 k) (cond (Nat.ble 144 k) ((some .int)) ((some .boolean))) ((some .int))) (cond (Nat.ble 140 k) (cond (Nat.ble 141 k) ((some .int)) ((some .boolean))) ((some .long))))) (cond (Nat.ble 132 k) (cond (Nat.ble 135 k) (cond (Nat.ble 137 k) (cond (Nat.ble 138 k) ((some .boolean)) ((some .boolean))) (cond (Nat.ble 136 k) ((some .boolean)) ((some .int)))) (cond (Nat.ble 133 k) (cond (Nat.ble 134 k) ((some .int)) ((some .int))) ((some .int)))) (cond (Nat.ble 129 k) (cond (Nat.ble 130 k) (cond (Nat.ble 131 k) ((some .int)) (none)) (none)) (cond (Nat.ble 127 k) (cond (Nat.ble 128 k) (none) (none)) (none))))) (cond (Nat.ble 113 k) (cond (Nat.ble 119 k) (cond (Nat.ble 122 k) (cond (Nat.ble 124 k) (cond (Nat.ble 125 k) ((some .int)) ((some .int))) (cond (Nat.ble 123 k) ((some .int)) ((some .int)))) (cond (Nat.ble 120 k) (cond (Nat.ble 121 k) ((some .int)) ((some .int))) ((some .int)))) (cond (Nat.ble 116 k) (cond (Nat.ble 117 k) (cond (Nat.ble 118 k) ((some .int)) ((some .int))) ((some .int))) (cond (Nat.ble 114 k) (cond (Nat.ble 115 k) ((some .int)) ((some .int))) ((some .int))))) (cond (Nat.ble 107 k) (cond (Nat.ble 110 k) (cond (Nat.ble 111 k) (cond (Nat.ble 112 k) (none) ((some .boolean))) ((some .int))) (cond (Nat.ble 108 k) (cond (Nat.ble 109 k) ((some .int)) ((some .int))) ((some .int)))) (cond (Nat.ble 104 k) (cond (Nat.ble 105 k) (cond (Nat.ble 106 k) ((some .int)) ((some .int))) ((some .boolean))) (cond (Nat.ble 102 k) (cond (Nat.ble 103 k) ((some .int)) ((some .int))) ((some .int)))))))) (cond (Nat.ble 50 k) (cond (Nat.ble 75 k) (cond (Nat.ble 88 k) (cond (Nat.ble 94 k) (cond (Nat.ble 97 k) (cond (Nat.ble 99 k) (cond (Nat.ble 100 k) ((some .int)) ((some .int))) (cond (Nat.ble 98 k) (none) ((some .int)))) (cond (Nat.ble 95 k) (cond (Nat.ble 96 k) ((some .int)) (none)) ((some .int)))) (cond (Nat.ble 91 k) (cond (Nat.ble 92 k) (cond (Nat.ble 93 k) (none) ((some .int))) (none)) (cond (Nat.ble 89 k) (cond (Nat.ble 90 k) ((some .int)) ((some .int))) ((some .int))))) (cond (Nat.ble 81 k) (cond (Nat.ble 84 k) (cond (Nat.ble 86 k) (cond (Nat.ble 87 k) ((some .int)) ((some .int))) (cond (Nat.ble 85 k) ((some .int)) (none))) (cond (Nat.ble 82 k) (cond (Nat.ble 83 k) ((some .int)) ((some .int))) ((some .int)))) (cond (Nat.ble 78 k) (cond (Nat.ble 79 k) (cond (Nat.ble 80 k) ((some .int)) ((some .int))) ((some .int))) (cond (Nat.ble 76 k) (cond (Nat.ble 77 k) ((some .int)) ((some .int))) ((some .int)))))) (cond (Nat.ble 62 k) (cond (Nat.ble 68 k) (cond (Nat.ble 71 k) (cond (Nat.ble 73 k) (cond (Nat.ble 74 k) ((some .int)) ((some .int))) (cond (Nat.ble 72 k) ((some .int)) ((some .int)))) (cond (Nat.ble 69 k) (cond (Nat.ble 70 k) ((some .boolean)) ((some .boolean))) ((some .int)))) (cond (Nat.ble 65 k) (cond (Nat.ble 66 k) (cond (Nat.ble 67 k) ((some .int)) ((some .int))) ((some .int))) (cond (Nat.ble 63 k) (cond (Nat.ble 64 k) ((some .int)) ((some .int))) ((some .int))))) (cond (Nat.ble 56 k) (cond (Nat.ble 59 k) (cond (Nat.ble 60 k) (cond (Nat.ble 61 k) ((some .int)) ((some .int))) ((some .int))) (cond (Nat.ble 57 k) (cond (Nat.ble 58 k) ((some .int)) ((some .int))) ((some .int)))) (cond (Nat.ble 53 k) (cond (Nat.ble 54 k) (cond (Nat.ble 55 k) ((some .int)) ((some .boolean))) (none)) (cond (Nat.ble 51 k) (cond (Nat.ble 52 k) ((some .int)) ((some .boolean))) ((some .int))))))) (cond (Nat.ble 25 k) (cond (Nat.ble 37 k) (cond (Nat.ble 43 k) (cond (Nat.ble 46 k) (cond (Nat.ble 48 k) (cond (Nat.ble 49 k) (none) ((some .char))) (cond (Nat.ble 47 k) ((some .boolean)) ((some .char)))) (cond (Nat.ble 44 k) (cond (Nat.ble 45 k) ((some .byte)) ((some .int))) ((some .boolean)))) (cond (Nat.ble 40 k) (cond (Nat.ble 41 k) (cond (Nat.ble 42 k) ((some .boolean)) (none)) ((some .boolean))) (cond (Nat.ble 38 k) (cond (Nat.ble 39 k) ((some .int)) ((some .int))) ((some .boolean))))) (cond (Nat.ble 31 k) (cond (Nat.ble 34 k) (cond (Nat.ble 35 k) (cond (Nat.ble 36 k) ((some .boolean)) (none)) (none)) (cond (Nat.ble 32 k) (cond (Nat.ble 33 k) ((some .boolean)) ((some .int))) (none))) (cond (Nat.ble 28 k) (cond (Nat.ble 29 k) (cond (Nat.ble 30 k) ((some .int)) ((some .boolean))) ((some .int))) (cond (Nat.ble 26 k) (cond (Nat.ble 27 k) (none) ((some .boolean))) ((some .int)))))) (cond (Nat.ble 12 k) (cond (Nat.ble 18 k) (cond (Nat.ble 21 k) (cond (Nat.ble 23 k) (cond (Nat.ble 24 k) ((some .int)) ((some .int))) (cond (Nat.ble 22 k) ((some .boolean)) ((some .int)))) (cond (Nat.ble 19 k) (cond (Nat.ble 20 k) ((some .boolean)) ((some .boolean))) ((some .boolean)))) (cond (Nat.ble 15 k) (cond (Nat.ble 16 k) (cond (Nat.ble 17 k) ((some .int)) (none)) ((some .boolean))) (cond (Nat.ble 13 k) (cond (Nat.ble 14 k) ((some .int)) ((some .int))) ((some .int))))) (cond (Nat.ble 6 k) (cond (Nat.ble 9 k) (cond (Nat.ble 10 k) (cond (Nat.ble 11 k) ((some .int)) (none)) (none)) (cond (Nat.ble 7 k) (cond (Nat.ble 8 k) (none) (none)) (none))) (cond (Nat.ble 3 k) (cond (Nat.ble 4 k) (cond (Nat.ble 5 k) (none) ((some .int))) (none)) (cond (Nat.ble 1 k) (cond (Nat.ble 2 k) (none) (none)) (none)))))))
/-- how many values a call takes off the stack (the receiver too) -/
def mN (k : Nat) : Nat := cond (Nat.ble 101 k) (cond (Nat.ble 152 k) (cond (Nat.ble 177 k) (cond (Nat.ble 190 k) (cond (Nat.ble 196 k) (cond (Nat.ble 199 k) (cond (Nat.ble 201 k) (cond (Nat.ble 202 k) (1) (1)) (cond (Nat.ble 200 k) (2) (2))) (cond (Nat.ble 197 k) (cond (Nat.ble 198 k) (2) (1)) (2))) (cond (Nat.ble 193 k) (cond (Nat.ble 194 k) (cond (Nat.ble 195 k) (2) (3)) (3)) (cond (Nat.ble 191 k) (cond (Nat.ble 192 k) (2) (5)) (3)))) (cond (Nat.ble 183 k) (cond (Nat.ble 186 k) (cond (Nat.ble 188 k) (cond (Nat.ble 189 k) (2) (2)) (cond (Nat.ble 187 k) (2) (4))) (cond (Nat.ble 184 k) (cond (Nat.ble 185 k) (4) (3)) (1))) (cond (Nat.ble 180 k) (cond (Nat.ble 181 k) (cond (Nat.ble 182 k) (3) (5)) (2)) (cond (Nat.ble 178 k) (cond (Nat.ble 179 k) (3) (2)) (2))))) (cond (Nat.ble 164 k) (cond (Nat.ble 170 k) (cond (Nat.ble 173 k) (cond (Nat.ble 175 k) (cond (Nat.ble 176 k) (1) (2)) (cond (Nat.ble 174 k) (1) (2))) (cond (Nat.ble 171 k) (cond (Nat.ble 172 k) (1) (2)) (2))) (cond (Nat.ble 167 k) (cond (Nat.ble 168 k) (cond (Nat.ble 169 k) (2) (2)) (3)) (cond (Nat.ble 165 k) (cond (Nat.ble 166 k) (3) (1)) (1)))) (cond (Nat.ble 158 k) (cond (Nat.ble 161 k) (cond (Nat.ble 162 k) (cond (Nat.ble 163 k) (3) (2)) (1)) (cond (Nat.ble 159 k) (cond (Nat.ble 160 k) (2) (3)) (1))) (cond (Nat.ble 155 k) (cond (Nat.ble 156 k) (cond (Nat.ble 157 k) (2) (2)) (1)) (cond (Nat.ble 153 k) (cond (Nat.ble 154 k) (2) (1)) (2)))))) (cond (Nat.ble 126 k) (cond (Nat.ble 139 k) (cond (Nat.ble 145 k) (cond (Nat.ble 148 k) (cond (Nat.ble 150 k) (cond (Nat.ble 151 k) (4) (3)) (cond (Nat.ble 149 k) (3) (1))) (cond (Nat.ble 146 k) (cond (Nat.ble 147 k) (3) (2)) (3))) (cond (Nat.ble 142 k) (cond (Nat.ble 143 k) (cond (Nat.ble 144 k) (2) (2)) (3)) (cond (Nat.ble 140 k) (cond (Nat.ble 141 k) (2) (1)) (2)))) (cond (Nat.ble 132 k) (cond (Nat.ble 135 k) (cond (Nat.ble 137 k) (cond (Nat.ble 138 k) (2) (3)) (cond (Nat.ble 136 k) (2) (4))) (cond (Nat.ble 133 k) (cond (Nat.ble 134 k) (2) (2)) (1))) (cond (Nat.ble 129 k) (cond (Nat.ble 130 k) (cond (Nat.ble 131 k) (6) (5)) (5)) (cond (Nat.ble 127 k) (cond (Nat.ble 128 k) (5) (1)) (1))))) (cond (Nat.ble 113 k) (cond (Nat.ble 119 k) (cond (Nat.ble 122 k) (cond (Nat.ble 124 k) (cond (Nat.ble 125 k) (1) (1)) (cond (Nat.ble 123 k) (2) (2))) (cond (Nat.ble 120 k) (cond (Nat.ble 121 k) (2) (1)) (2))) (cond (Nat.ble 116 k) (cond (Nat.ble 117 k) (cond (Nat.ble 118 k) (2) (3)) (4)) (cond (Nat.ble 114 k) (cond (Nat.ble 115 k) (4) (3)) (2)))) (cond (Nat.ble 107 k) (cond (Nat.ble 110 k) (cond (Nat.ble 111 k) (cond (Nat.ble 112 k) (5) (5)) (3)) (cond (Nat.ble 108 k) (cond (Nat.ble 109 k) (2) (2)) (2))) (cond (Nat.ble 104 k) (cond (Nat.ble 105 k) (cond (Nat.ble 106 k) (2) (4)) (1)) (cond (Nat.ble 102 k) (cond (Nat.ble 103 k) (4) (3)) (3))))))) (cond (Nat.ble 50 k) (cond (Nat.ble 75 k) (cond (Nat.ble 88 k) (cond (Nat.ble 94 k) (cond (Nat.ble 97 k) (cond (Nat.ble 99 k) (cond (Nat.ble 100 k) (1) (3)) (cond (Nat.ble 98 k) (1) (4))) (cond (Nat.ble 95 k) (cond (Nat.ble 96 k) (3) (1)) (1))) (cond (Nat.ble 91 k) (cond (Nat.ble 92 k) (cond (Nat.ble 93 k) (2) (2)) (4)) (cond (Nat.ble 89 k) (cond (Nat.ble 90 k) (4) (3)) (2)))) (cond (Nat.ble 81 k) (cond (Nat.ble 84 k) (cond (Nat.ble 86 k) (cond (Nat.ble 87 k) (1) (2)) (cond (Nat.ble 85 k) (2) (2))) (cond (Nat.ble 82 k) (cond (Nat.ble 83 k) (2) (1)) (3))) (cond (Nat.ble 78 k) (cond (Nat.ble 79 k) (cond (Nat.ble 80 k) (2) (2)) (2)) (cond (Nat.ble 76 k) (cond (Nat.ble 77 k) (3) (4)) (2))))) (cond (Nat.ble 62 k) (cond (Nat.ble 68 k) (cond (Nat.ble 71 k) (cond (Nat.ble 73 k) (cond (Nat.ble 74 k) (2) (2)) (cond (Nat.ble 72 k) (1) (2))) (cond (Nat.ble 69 k) (cond (Nat.ble 70 k) (2) (3)) (2))) (cond (Nat.ble 65 k) (cond (Nat.ble 66 k) (cond (Nat.ble 67 k) (2) (3)) (3)) (cond (Nat.ble 63 k) (cond (Nat.ble 64 k) (3) (3)) (3)))) (cond (Nat.ble 56 k) (cond (Nat.ble 59 k) (cond (Nat.ble 60 k) (cond (Nat.ble 61 k) (1) (1)) (3)) (cond (Nat.ble 57 k) (cond (Nat.ble 58 k) (4) (4)) (1))) (cond (Nat.ble 53 k) (cond (Nat.ble 54 k) (cond (Nat.ble 55 k) (1) (1)) (3)) (cond (Nat.ble 51 k) (cond (Nat.ble 52 k) (2) (2)) (3)))))) (cond (Nat.ble 25 k) (cond (Nat.ble 37 k) (cond (Nat.ble 43 k) (cond (Nat.ble 46 k) (cond (Nat.ble 48 k) (cond (Nat.ble 49 k) (2) (2)) (cond (Nat.ble 47 k) (1) (2))) (cond (Nat.ble 44 k) (cond (Nat.ble 45 k) (1) (1)) (2))) (cond (Nat.ble 40 k) (cond (Nat.ble 41 k) (cond (Nat.ble 42 k) (2) (1)) (3)) (cond (Nat.ble 38 k) (cond (Nat.ble 39 k) (3) (2)) (3)))) (cond (Nat.ble 31 k) (cond (Nat.ble 34 k) (cond (Nat.ble 35 k) (cond (Nat.ble 36 k) (3) (3)) (4)) (cond (Nat.ble 32 k) (cond (Nat.ble 33 k) (2) (3)) (1))) (cond (Nat.ble 28 k) (cond (Nat.ble 29 k) (cond (Nat.ble 30 k) (3) (2)) (3)) (cond (Nat.ble 26 k) (cond (Nat.ble 27 k) (5) (4)) (4))))) (cond (Nat.ble 12 k) (cond (Nat.ble 18 k) (cond (Nat.ble 21 k) (cond (Nat.ble 23 k) (cond (Nat.ble 24 k) (2) (2)) (cond (Nat.ble 22 k) (2) (3))) (cond (Nat.ble 19 k) (cond (Nat.ble 20 k) (2) (2)) (2))) (cond (Nat.ble 15 k) (cond (Nat.ble 16 k) (cond (Nat.ble 17 k) (4) (2)) (2)) (cond (Nat.ble 13 k) (cond (Nat.ble 14 k) (6) (2)) (2)))) (cond (Nat.ble 6 k) (cond (Nat.ble 9 k) (cond (Nat.ble 10 k) (cond (Nat.ble 11 k) (1) (1)) (1)) (cond (Nat.ble 7 k) (cond (Nat.ble 8 k) (1) (4)) (1))) (cond (Nat.ble 3 k) (cond (Nat.ble 4 k) (cond (Nat.ble 5 k) (1) (2)) (2)) (cond (Nat.ble 1 k) (cond (Nat.ble 2 k) (1) (1)) (1)))))))
/-- 0 an instance method, 1 a static one -/
def mS (k : Nat) : Nat := cond (Nat.ble 101 k) (cond (Nat.ble 152 k) (cond (Nat.ble 177 k) (cond (Nat.ble 190 k) (cond (Nat.ble 196 k) (cond (Nat.ble 199 k) (cond (Nat.ble 201 k) (cond (Nat.ble 202 k) (1) (0)) (cond (Nat.ble 200 k) (0) (0))) (cond (Nat.ble 197 k) (cond (Nat.ble 198 k) (0) (0)) (0))) (cond (Nat.ble 193 k) (cond (Nat.ble 194 k) (cond (Nat.ble 195 k) (0) (0)) (0)) (cond (Nat.ble 191 k) (cond (Nat.ble 192 k) (0) (0)) (0)))) (cond (Nat.ble 183 k) (cond (Nat.ble 186 k) (cond (Nat.ble 188 k) (cond (Nat.ble 189 k) (0) (0)) (cond (Nat.ble 187 k) (0) (0))) (cond (Nat.ble 184 k) (cond (Nat.ble 185 k) (0) (0)) (0))) (cond (Nat.ble 180 k) (cond (Nat.ble 181 k) (cond (Nat.ble 182 k) (0) (0)) (1)) (cond (Nat.ble 178 k) (cond (Nat.ble 179 k) (0) (0)) (0))))) (cond (Nat.ble 164 k) (cond (Nat.ble 170 k) (cond (Nat.ble 173 k) (cond (Nat.ble 175 k) (cond (Nat.ble 176 k) (0) (0)) (cond (Nat.ble 174 k) (1) (0))) (cond (Nat.ble 171 k) (cond (Nat.ble 172 k) (0) (0)) (0))) (cond (Nat.ble 167 k) (cond (Nat.ble 168 k) (cond (Nat.ble 169 k) (0) (0)) (0)) (cond (Nat.ble 165 k) (cond (Nat.ble 166 k) (0) (0)) (0)))) (cond (Nat.ble 158 k) (cond (Nat.ble 161 k) (cond (Nat.ble 162 k) (cond (Nat.ble 163 k) (0) (0)) (0)) (cond (Nat.ble 159 k) (cond (Nat.ble 160 k) (0) (0)) (1))) (cond (Nat.ble 155 k) (cond (Nat.ble 156 k) (cond (Nat.ble 157 k) (0) (0)) (1)) (cond (Nat.ble 153 k) (cond (Nat.ble 154 k) (0) (0)) (0)))))) (cond (Nat.ble 126 k) (cond (Nat.ble 139 k) (cond (Nat.ble 145 k) (cond (Nat.ble 148 k) (cond (Nat.ble 150 k) (cond (Nat.ble 151 k) (0) (0)) (cond (Nat.ble 149 k) (0) (0))) (cond (Nat.ble 146 k) (cond (Nat.ble 147 k) (0) (0)) (0))) (cond (Nat.ble 142 k) (cond (Nat.ble 143 k) (cond (Nat.ble 144 k) (0) (0)) (0)) (cond (Nat.ble 140 k) (cond (Nat.ble 141 k) (0) (1)) (0)))) (cond (Nat.ble 132 k) (cond (Nat.ble 135 k) (cond (Nat.ble 137 k) (cond (Nat.ble 138 k) (0) (1)) (cond (Nat.ble 136 k) (0) (0))) (cond (Nat.ble 133 k) (cond (Nat.ble 134 k) (0) (0)) (0))) (cond (Nat.ble 129 k) (cond (Nat.ble 130 k) (cond (Nat.ble 131 k) (0) (0)) (0)) (cond (Nat.ble 127 k) (cond (Nat.ble 128 k) (0) (0)) (0))))) (cond (Nat.ble 113 k) (cond (Nat.ble 119 k) (cond (Nat.ble 122 k) (cond (Nat.ble 124 k) (cond (Nat.ble 125 k) (0) (0)) (cond (Nat.ble 123 k) (0) (0))) (cond (Nat.ble 120 k) (cond (Nat.ble 121 k) (0) (0)) (0))) (cond (Nat.ble 116 k) (cond (Nat.ble 117 k) (cond (Nat.ble 118 k) (0) (0)) (0)) (cond (Nat.ble 114 k) (cond (Nat.ble 115 k) (0) (0)) (0)))) (cond (Nat.ble 107 k) (cond (Nat.ble 110 k) (cond (Nat.ble 111 k) (cond (Nat.ble 112 k) (0) (0)) (0)) (cond (Nat.ble 108 k) (cond (Nat.ble 109 k) (0) (0)) (0))) (cond (Nat.ble 104 k) (cond (Nat.ble 105 k) (cond (Nat.ble 106 k) (0) (0)) (1)) (cond (Nat.ble 102 k) (cond (Nat.ble 103 k) (0) (0)) (0))))))) (cond (Nat.ble 50 k) (cond (Nat.ble 75 k) (cond (Nat.ble 88 k) (cond (Nat.ble 94 k) (cond (Nat.ble 97 k) (cond (Nat.ble 99 k) (cond (Nat.ble 100 k) (0) (0)) (cond (Nat.ble 98 k) (0) (0))) (cond (Nat.ble 95 k) (cond (Nat.ble 96 k) (0) (0)) (1))) (cond (Nat.ble 91 k) (cond (Nat.ble 92 k) (cond (Nat.ble 93 k) (0) (0)) (0)) (cond (Nat.ble 89 k) (cond (Nat.ble 90 k) (0) (0)) (0)))) (cond (Nat.ble 81 k) (cond (Nat.ble 84 k) (cond (Nat.ble 86 k) (cond (Nat.ble 87 k) (0) (0)) (cond (Nat.ble 85 k) (0) (0))) (cond (Nat.ble 82 k) (cond (Nat.ble 83 k) (0) (1)) (0))) (cond (Nat.ble 78 k) (cond (Nat.ble 79 k) (cond (Nat.ble 80 k) (0) (0)) (0)) (cond (Nat.ble 76 k) (cond (Nat.ble 77 k) (0) (0)) (0))))) (cond (Nat.ble 62 k) (cond (Nat.ble 68 k) (cond (Nat.ble 71 k) (cond (Nat.ble 73 k) (cond (Nat.ble 74 k) (0) (0)) (cond (Nat.ble 72 k) (0) (0))) (cond (Nat.ble 69 k) (cond (Nat.ble 70 k) (0) (0)) (0))) (cond (Nat.ble 65 k) (cond (Nat.ble 66 k) (cond (Nat.ble 67 k) (0) (0)) (0)) (cond (Nat.ble 63 k) (cond (Nat.ble 64 k) (0) (0)) (0)))) (cond (Nat.ble 56 k) (cond (Nat.ble 59 k) (cond (Nat.ble 60 k) (cond (Nat.ble 61 k) (0) (0)) (0)) (cond (Nat.ble 57 k) (cond (Nat.ble 58 k) (0) (0)) (0))) (cond (Nat.ble 53 k) (cond (Nat.ble 54 k) (cond (Nat.ble 55 k) (0) (0)) (0)) (cond (Nat.ble 51 k) (cond (Nat.ble 52 k) (0) (0)) (1)))))) (cond (Nat.ble 25 k) (cond (Nat.ble 37 k) (cond (Nat.ble 43 k) (cond (Nat.ble 46 k) (cond (Nat.ble 48 k) (cond (Nat.ble 49 k) (1) (1)) (cond (Nat.ble 47 k) (0) (0))) (cond (Nat.ble 44 k) (cond (Nat.ble 45 k) (0) (0)) (0))) (cond (Nat.ble 40 k) (cond (Nat.ble 41 k) (cond (Nat.ble 42 k) (0) (0)) (0)) (cond (Nat.ble 38 k) (cond (Nat.ble 39 k) (0) (0)) (0)))) (cond (Nat.ble 31 k) (cond (Nat.ble 34 k) (cond (Nat.ble 35 k) (cond (Nat.ble 36 k) (0) (0)) (0)) (cond (Nat.ble 32 k) (cond (Nat.ble 33 k) (0) (0)) (0))) (cond (Nat.ble 28 k) (cond (Nat.ble 29 k) (cond (Nat.ble 30 k) (0) (0)) (0)) (cond (Nat.ble 26 k) (cond (Nat.ble 27 k) (0) (0)) (0))))) (cond (Nat.ble 12 k) (cond (Nat.ble 18 k) (cond (Nat.ble 21 k) (cond (Nat.ble 23 k) (cond (Nat.ble 24 k) (0) (0)) (cond (Nat.ble 22 k) (1) (0))) (cond (Nat.ble 19 k) (cond (Nat.ble 20 k) (1) (0)) (0))) (cond (Nat.ble 15 k) (cond (Nat.ble 16 k) (cond (Nat.ble 17 k) (0) (0)) (0)) (cond (Nat.ble 13 k) (cond (Nat.ble 14 k) (0) (0)) (0)))) (cond (Nat.ble 6 k) (cond (Nat.ble 9 k) (cond (Nat.ble 10 k) (cond (Nat.ble 11 k) (0) (0)) (0)) (cond (Nat.ble 7 k) (cond (Nat.ble 8 k) (0) (0)) (0))) (cond (Nat.ble 3 k) (cond (Nat.ble 4 k) (cond (Nat.ble 5 k) (0) (1)) (0)) (cond (Nat.ble 1 k) (cond (Nat.ble 2 k) (0) (0)) (0)))))))
/-- the number of the receiver in the table of kinds (50: none) -/
def mK (k : Nat) : Nat := cond (Nat.ble 101 k) (cond (Nat.ble 152 k) (cond (Nat.ble 177 k) (cond (Nat.ble 190 k) (cond (Nat.ble 196 k) (cond (Nat.ble 199 k) (cond (Nat.ble 201 k) (cond (Nat.ble 202 k) (50) (11)) (cond (Nat.ble 200 k) (11) (11))) (cond (Nat.ble 197 k) (cond (Nat.ble 198 k) (11) (11)) (11))) (cond (Nat.ble 193 k) (cond (Nat.ble 194 k) (cond (Nat.ble 195 k) (11) (11)) (11)) (cond (Nat.ble 191 k) (cond (Nat.ble 192 k) (11) (11)) (11)))) (cond (Nat.ble 183 k) (cond (Nat.ble 186 k) (cond (Nat.ble 188 k) (cond (Nat.ble 189 k) (11) (11)) (cond (Nat.ble 187 k) (11) (11))) (cond (Nat.ble 184 k) (cond (Nat.ble 185 k) (11) (11)) (11))) (cond (Nat.ble 180 k) (cond (Nat.ble 181 k) (cond (Nat.ble 182 k) (11) (11)) (50)) (cond (Nat.ble 178 k) (cond (Nat.ble 179 k) (11) (11)) (11))))) (cond (Nat.ble 164 k) (cond (Nat.ble 170 k) (cond (Nat.ble 173 k) (cond (Nat.ble 175 k) (cond (Nat.ble 176 k) (11) (11)) (cond (Nat.ble 174 k) (11) (11))) (cond (Nat.ble 171 k) (cond (Nat.ble 172 k) (11) (11)) (11))) (cond (Nat.ble 167 k) (cond (Nat.ble 168 k) (cond (Nat.ble 169 k) (11) (11)) (11)) (cond (Nat.ble 165 k) (cond (Nat.ble 166 k) (11) (11)) (11)))) (cond (Nat.ble 158 k) (cond (Nat.ble 161 k) (cond (Nat.ble 162 k) (cond (Nat.ble 163 k) (11) (11)) (11)) (cond (Nat.ble 159 k) (cond (Nat.ble 160 k) (11) (11)) (11))) (cond (Nat.ble 155 k) (cond (Nat.ble 156 k) (cond (Nat.ble 157 k) (11) (11)) (11)) (cond (Nat.ble 153 k) (cond (Nat.ble 154 k) (11) (11)) (11)))))) (cond (Nat.ble 126 k) (cond (Nat.ble 139 k) (cond (Nat.ble 145 k) (cond (Nat.ble 148 k) (cond (Nat.ble 150 k) (cond (Nat.ble 151 k) (11) (11)) (cond (Nat.ble 149 k) (11) (11))) (cond (Nat.ble 146 k) (cond (Nat.ble 147 k) (11) (11)) (11))) (cond (Nat.ble 142 k) (cond (Nat.ble 143 k) (cond (Nat.ble 144 k) (11) (11)) (11)) (cond (Nat.ble 140 k) (cond (Nat.ble 141 k) (11) (11)) (11)))) (cond (Nat.ble 132 k) (cond (Nat.ble 135 k) (cond (Nat.ble 137 k) (cond (Nat.ble 138 k) (11) (11)) (cond (Nat.ble 136 k) (11) (11))) (cond (Nat.ble 133 k) (cond (Nat.ble 134 k) (11) (11)) (11))) (cond (Nat.ble 129 k) (cond (Nat.ble 130 k) (cond (Nat.ble 131 k) (11) (50)) (50)) (cond (Nat.ble 127 k) (cond (Nat.ble 128 k) (50) (10)) (11))))) (cond (Nat.ble 113 k) (cond (Nat.ble 119 k) (cond (Nat.ble 122 k) (cond (Nat.ble 124 k) (cond (Nat.ble 125 k) (9) (9)) (cond (Nat.ble 123 k) (9) (9))) (cond (Nat.ble 120 k) (cond (Nat.ble 121 k) (9) (9)) (9))) (cond (Nat.ble 116 k) (cond (Nat.ble 117 k) (cond (Nat.ble 118 k) (9) (4)) (4)) (cond (Nat.ble 114 k) (cond (Nat.ble 115 k) (4) (9)) (9)))) (cond (Nat.ble 107 k) (cond (Nat.ble 110 k) (cond (Nat.ble 111 k) (cond (Nat.ble 112 k) (4) (9)) (9)) (cond (Nat.ble 108 k) (cond (Nat.ble 109 k) (9) (2)) (9))) (cond (Nat.ble 104 k) (cond (Nat.ble 105 k) (cond (Nat.ble 106 k) (9) (9)) (9)) (cond (Nat.ble 102 k) (cond (Nat.ble 103 k) (9) (1)) (9))))))) (cond (Nat.ble 50 k) (cond (Nat.ble 75 k) (cond (Nat.ble 88 k) (cond (Nat.ble 94 k) (cond (Nat.ble 97 k) (cond (Nat.ble 99 k) (cond (Nat.ble 100 k) (9) (1)) (cond (Nat.ble 98 k) (1) (1))) (cond (Nat.ble 95 k) (cond (Nat.ble 96 k) (1) (1)) (50))) (cond (Nat.ble 91 k) (cond (Nat.ble 92 k) (cond (Nat.ble 93 k) (1) (6)) (1)) (cond (Nat.ble 89 k) (cond (Nat.ble 90 k) (1) (9)) (9)))) (cond (Nat.ble 81 k) (cond (Nat.ble 84 k) (cond (Nat.ble 86 k) (cond (Nat.ble 87 k) (9) (0)) (cond (Nat.ble 85 k) (9) (0))) (cond (Nat.ble 82 k) (cond (Nat.ble 83 k) (0) (50)) (0))) (cond (Nat.ble 78 k) (cond (Nat.ble 79 k) (cond (Nat.ble 80 k) (0) (0)) (0)) (cond (Nat.ble 76 k) (cond (Nat.ble 77 k) (0) (0)) (9))))) (cond (Nat.ble 62 k) (cond (Nat.ble 68 k) (cond (Nat.ble 71 k) (cond (Nat.ble 73 k) (cond (Nat.ble 74 k) (9) (8)) (cond (Nat.ble 72 k) (9) (6))) (cond (Nat.ble 69 k) (cond (Nat.ble 70 k) (6) (6)) (9))) (cond (Nat.ble 65 k) (cond (Nat.ble 66 k) (cond (Nat.ble 67 k) (9) (9)) (6)) (cond (Nat.ble 63 k) (cond (Nat.ble 64 k) (9) (6)) (9)))) (cond (Nat.ble 56 k) (cond (Nat.ble 59 k) (cond (Nat.ble 60 k) (cond (Nat.ble 61 k) (9) (9)) (9)) (cond (Nat.ble 57 k) (cond (Nat.ble 58 k) (6) (9)) (5))) (cond (Nat.ble 53 k) (cond (Nat.ble 54 k) (cond (Nat.ble 55 k) (5) (5)) (5)) (cond (Nat.ble 51 k) (cond (Nat.ble 52 k) (8) (5)) (50)))))) (cond (Nat.ble 25 k) (cond (Nat.ble 37 k) (cond (Nat.ble 43 k) (cond (Nat.ble 46 k) (cond (Nat.ble 48 k) (cond (Nat.ble 49 k) (12) (50)) (cond (Nat.ble 47 k) (12) (12))) (cond (Nat.ble 44 k) (cond (Nat.ble 45 k) (12) (12)) (5))) (cond (Nat.ble 40 k) (cond (Nat.ble 41 k) (cond (Nat.ble 42 k) (5) (5)) (5)) (cond (Nat.ble 38 k) (cond (Nat.ble 39 k) (9) (2)) (2)))) (cond (Nat.ble 31 k) (cond (Nat.ble 34 k) (cond (Nat.ble 35 k) (cond (Nat.ble 36 k) (9) (2)) (2)) (cond (Nat.ble 32 k) (cond (Nat.ble 33 k) (2) (9)) (7))) (cond (Nat.ble 28 k) (cond (Nat.ble 29 k) (cond (Nat.ble 30 k) (9) (8)) (3)) (cond (Nat.ble 26 k) (cond (Nat.ble 27 k) (8) (3)) (3))))) (cond (Nat.ble 12 k) (cond (Nat.ble 18 k) (cond (Nat.ble 21 k) (cond (Nat.ble 23 k) (cond (Nat.ble 24 k) (7) (7)) (cond (Nat.ble 22 k) (3) (3))) (cond (Nat.ble 19 k) (cond (Nat.ble 20 k) (9) (7)) (9))) (cond (Nat.ble 15 k) (cond (Nat.ble 16 k) (cond (Nat.ble 17 k) (9) (7)) (7)) (cond (Nat.ble 13 k) (cond (Nat.ble 14 k) (9) (9)) (9)))) (cond (Nat.ble 6 k) (cond (Nat.ble 9 k) (cond (Nat.ble 10 k) (cond (Nat.ble 11 k) (9) (4)) (1)) (cond (Nat.ble 7 k) (cond (Nat.ble 8 k) (0) (5)) (6))) (cond (Nat.ble 3 k) (cond (Nat.ble 4 k) (cond (Nat.ble 5 k) (2) (50)) (3)) (cond (Nat.ble 1 k) (cond (Nat.ble 2 k) (8) (7)) (9)))))))
/-- the handlers: one method has one -/
def mH (k : Nat) : List (Nat × Nat × Nat × Nat) := cond (Nat.beq k 151) [(5, 17, 20, 13)] []
/-- where the words of a method stand: code, kind, selection, initialised -/
def mW (k : Nat) : Nat × Nat × Nat × Nat := cond (Nat.ble 101 k) (cond (Nat.ble 152 k) (cond (Nat.ble 177 k) (cond (Nat.ble 190 k) (cond (Nat.ble 196 k) (cond (Nat.ble 199 k) (cond (Nat.ble 201 k) (cond (Nat.ble 202 k) ((0, 0, 0, 0)) ((1416, 1414, 1415, 113))) (cond (Nat.ble 200 k) ((1412, 1410, 1411, 113)) ((1408, 1406, 1407, 113)))) (cond (Nat.ble 197 k) (cond (Nat.ble 198 k) ((1404, 1402, 1403, 113)) ((1400, 1398, 1399, 113))) ((1396, 1394, 1395, 113)))) (cond (Nat.ble 193 k) (cond (Nat.ble 194 k) (cond (Nat.ble 195 k) ((1391, 1390, 100, 113)) ((1387, 1386, 99, 113))) ((1383, 1382, 98, 113))) (cond (Nat.ble 191 k) (cond (Nat.ble 192 k) ((1379, 1377, 1378, 113)) ((1375, 1373, 1374, 113))) ((1371, 1369, 1370, 113))))) (cond (Nat.ble 183 k) (cond (Nat.ble 186 k) (cond (Nat.ble 188 k) (cond (Nat.ble 189 k) ((1367, 1365, 1366, 113)) ((1363, 1361, 1362, 113))) (cond (Nat.ble 187 k) ((1359, 1357, 1358, 113)) ((1355, 1354, 97, 113)))) (cond (Nat.ble 184 k) (cond (Nat.ble 185 k) ((1351, 1349, 1350, 113)) ((1347, 1345, 1346, 113))) ((1343, 1341, 1342, 113)))) (cond (Nat.ble 180 k) (cond (Nat.ble 181 k) (cond (Nat.ble 182 k) ((1338, 1337, 96, 113)) ((1334, 1333, 95, 113))) ((1330, 1329, 0, 106))) (cond (Nat.ble 178 k) (cond (Nat.ble 179 k) ((1327, 1325, 1326, 113)) ((1323, 1321, 1322, 113))) ((1319, 1318, 94, 113)))))) (cond (Nat.ble 164 k) (cond (Nat.ble 170 k) (cond (Nat.ble 173 k) (cond (Nat.ble 175 k) (cond (Nat.ble 176 k) ((1315, 1313, 1314, 113)) ((1311, 1309, 1310, 113))) (cond (Nat.ble 174 k) ((1307, 1306, 0, 113)) ((1304, 1302, 1303, 113)))) (cond (Nat.ble 171 k) (cond (Nat.ble 172 k) ((1300, 1298, 1299, 113)) ((1296, 1295, 93, 113))) ((1292, 1291, 92, 113)))) (cond (Nat.ble 167 k) (cond (Nat.ble 168 k) (cond (Nat.ble 169 k) ((1288, 1287, 91, 113)) ((1284, 1282, 1283, 113))) ((1280, 1278, 1279, 113))) (cond (Nat.ble 165 k) (cond (Nat.ble 166 k) ((1276, 1274, 1275, 113)) ((1272, 1270, 1271, 113))) ((1268, 1266, 1267, 113))))) (cond (Nat.ble 158 k) (cond (Nat.ble 161 k) (cond (Nat.ble 162 k) (cond (Nat.ble 163 k) ((1264, 1262, 1263, 113)) ((1260, 1259, 90, 113))) ((1251, 1250, 89, 113))) (cond (Nat.ble 159 k) (cond (Nat.ble 160 k) ((1247, 1246, 88, 113)) ((1242, 1241, 87, 113))) ((1236, 1235, 0, 113)))) (cond (Nat.ble 155 k) (cond (Nat.ble 156 k) (cond (Nat.ble 157 k) ((1233, 1232, 86, 113)) ((1228, 1227, 85, 113))) ((1224, 1223, 0, 113))) (cond (Nat.ble 153 k) (cond (Nat.ble 154 k) ((1221, 1220, 84, 113)) ((1217, 1216, 83, 113))) ((1213, 1212, 82, 113))))))) (cond (Nat.ble 126 k) (cond (Nat.ble 139 k) (cond (Nat.ble 145 k) (cond (Nat.ble 148 k) (cond (Nat.ble 150 k) (cond (Nat.ble 151 k) ((1209, 1208, 81, 113)) ((1205, 1203, 1204, 113))) (cond (Nat.ble 149 k) ((1201, 1199, 1200, 113)) ((1197, 1196, 80, 113)))) (cond (Nat.ble 146 k) (cond (Nat.ble 147 k) ((1193, 1192, 79, 113)) ((1189, 1188, 78, 113))) ((1185, 1183, 1184, 113)))) (cond (Nat.ble 142 k) (cond (Nat.ble 143 k) (cond (Nat.ble 144 k) ((1181, 1180, 77, 113)) ((1177, 1176, 76, 113))) ((1173, 1171, 1172, 113))) (cond (Nat.ble 140 k) (cond (Nat.ble 141 k) ((1169, 1168, 75, 113)) ((1164, 1163, 0, 113))) ((1161, 1160, 74, 113))))) (cond (Nat.ble 132 k) (cond (Nat.ble 135 k) (cond (Nat.ble 137 k) (cond (Nat.ble 138 k) ((1157, 1156, 73, 113)) ((1153, 1152, 0, 113))) (cond (Nat.ble 136 k) ((1150, 1149, 72, 113)) ((1146, 1144, 1145, 113)))) (cond (Nat.ble 133 k) (cond (Nat.ble 134 k) ((1142, 1141, 71, 113)) ((1138, 1137, 70, 113))) ((1134, 1132, 1133, 113)))) (cond (Nat.ble 129 k) (cond (Nat.ble 130 k) (cond (Nat.ble 131 k) ((1130, 1128, 1129, 113)) ((955, 954, 0, 114))) ((952, 951, 0, 115))) (cond (Nat.ble 127 k) (cond (Nat.ble 128 k) ((949, 948, 0, 116)) ((946, 945, 0, 117))) ((903, 902, 0, 113)))))) (cond (Nat.ble 113 k) (cond (Nat.ble 119 k) (cond (Nat.ble 122 k) (cond (Nat.ble 124 k) (cond (Nat.ble 125 k) ((898, 896, 897, 102)) ((894, 893, 68, 102))) (cond (Nat.ble 123 k) ((890, 888, 889, 102)) ((886, 884, 885, 102)))) (cond (Nat.ble 120 k) (cond (Nat.ble 121 k) ((882, 880, 881, 102)) ((876, 874, 875, 102))) ((872, 871, 67, 102)))) (cond (Nat.ble 116 k) (cond (Nat.ble 117 k) (cond (Nat.ble 118 k) ((868, 866, 867, 102)) ((863, 862, 66, 112))) ((858, 857, 65, 112))) (cond (Nat.ble 114 k) (cond (Nat.ble 115 k) ((854, 853, 64, 112)) ((850, 849, 63, 102))) ((846, 844, 845, 102))))) (cond (Nat.ble 107 k) (cond (Nat.ble 110 k) (cond (Nat.ble 111 k) (cond (Nat.ble 112 k) ((842, 841, 62, 112)) ((838, 836, 837, 102))) ((833, 831, 832, 102))) (cond (Nat.ble 108 k) (cond (Nat.ble 109 k) ((829, 827, 828, 102)) ((825, 824, 61, 107))) ((821, 819, 820, 102)))) (cond (Nat.ble 104 k) (cond (Nat.ble 105 k) (cond (Nat.ble 106 k) ((817, 815, 816, 102)) ((812, 811, 60, 102))) ((808, 807, 0, 102))) (cond (Nat.ble 102 k) (cond (Nat.ble 103 k) ((805, 803, 804, 102)) ((801, 800, 59, 111))) ((797, 795, 796, 102)))))))) (cond (Nat.ble 50 k) (cond (Nat.ble 75 k) (cond (Nat.ble 88 k) (cond (Nat.ble 94 k) (cond (Nat.ble 97 k) (cond (Nat.ble 99 k) (cond (Nat.ble 100 k) ((793, 791, 792, 102)) ((789, 788, 58, 111))) (cond (Nat.ble 98 k) ((785, 784, 57, 111)) ((780, 779, 56, 111)))) (cond (Nat.ble 95 k) (cond (Nat.ble 96 k) ((775, 774, 55, 111)) ((771, 770, 54, 111))) ((767, 766, 0, 106)))) (cond (Nat.ble 91 k) (cond (Nat.ble 92 k) (cond (Nat.ble 93 k) ((764, 763, 53, 111)) ((760, 759, 52, 108))) ((754, 753, 51, 111))) (cond (Nat.ble 89 k) (cond (Nat.ble 90 k) ((750, 749, 50, 111)) ((746, 744, 745, 102))) ((742, 740, 741, 102))))) (cond (Nat.ble 81 k) (cond (Nat.ble 84 k) (cond (Nat.ble 86 k) (cond (Nat.ble 87 k) ((738, 736, 737, 102)) ((734, 733, 49, 110))) (cond (Nat.ble 85 k) ((730, 728, 729, 102)) ((726, 725, 48, 110)))) (cond (Nat.ble 82 k) (cond (Nat.ble 83 k) ((722, 721, 47, 110)) ((715, 714, 0, 122))) ((711, 710, 46, 110)))) (cond (Nat.ble 78 k) (cond (Nat.ble 79 k) (cond (Nat.ble 80 k) ((707, 706, 45, 110)) ((703, 702, 44, 110))) ((699, 698, 43, 110))) (cond (Nat.ble 76 k) (cond (Nat.ble 77 k) ((693, 692, 42, 110)) ((689, 688, 41, 110))) ((685, 684, 40, 102)))))) (cond (Nat.ble 62 k) (cond (Nat.ble 68 k) (cond (Nat.ble 71 k) (cond (Nat.ble 73 k) (cond (Nat.ble 74 k) ((681, 679, 680, 102)) ((677, 676, 39, 104))) (cond (Nat.ble 72 k) ((673, 671, 672, 102)) ((668, 667, 38, 108)))) (cond (Nat.ble 69 k) (cond (Nat.ble 70 k) ((664, 663, 37, 108)) ((659, 658, 36, 108))) ((655, 654, 35, 102)))) (cond (Nat.ble 65 k) (cond (Nat.ble 66 k) (cond (Nat.ble 67 k) ((650, 648, 649, 102)) ((645, 643, 644, 102))) ((641, 640, 34, 108))) (cond (Nat.ble 63 k) (cond (Nat.ble 64 k) ((637, 635, 636, 102)) ((633, 632, 33, 108))) ((629, 627, 628, 102))))) (cond (Nat.ble 56 k) (cond (Nat.ble 59 k) (cond (Nat.ble 60 k) (cond (Nat.ble 61 k) ((625, 623, 624, 102)) ((621, 619, 620, 102))) ((617, 615, 616, 102))) (cond (Nat.ble 57 k) (cond (Nat.ble 58 k) ((613, 612, 32, 108)) ((609, 608, 31, 102))) ((600, 599, 30, 109)))) (cond (Nat.ble 53 k) (cond (Nat.ble 54 k) (cond (Nat.ble 55 k) ((596, 595, 29, 109)) ((592, 591, 28, 109))) ((588, 587, 27, 109))) (cond (Nat.ble 51 k) (cond (Nat.ble 52 k) ((583, 582, 26, 104)) ((578, 577, 25, 109))) ((555, 554, 0, 120))))))) (cond (Nat.ble 25 k) (cond (Nat.ble 37 k) (cond (Nat.ble 43 k) (cond (Nat.ble 46 k) (cond (Nat.ble 48 k) (cond (Nat.ble 49 k) ((550, 549, 0, 118)) ((547, 546, 0, 119))) (cond (Nat.ble 47 k) ((544, 542, 543, 118)) ((540, 538, 539, 118)))) (cond (Nat.ble 44 k) (cond (Nat.ble 45 k) ((533, 531, 532, 118)) ((529, 527, 528, 118))) ((525, 524, 24, 109)))) (cond (Nat.ble 40 k) (cond (Nat.ble 41 k) (cond (Nat.ble 42 k) ((520, 519, 23, 109)) ((514, 513, 22, 109))) ((510, 509, 21, 109))) (cond (Nat.ble 38 k) (cond (Nat.ble 39 k) ((506, 504, 505, 102)) ((501, 500, 20, 107))) ((497, 496, 19, 107))))) (cond (Nat.ble 31 k) (cond (Nat.ble 34 k) (cond (Nat.ble 35 k) (cond (Nat.ble 36 k) ((493, 491, 492, 102)) ((488, 487, 18, 107))) ((483, 482, 17, 107))) (cond (Nat.ble 32 k) (cond (Nat.ble 33 k) ((479, 478, 16, 107)) ((475, 473, 474, 102))) ((471, 470, 15, 103)))) (cond (Nat.ble 28 k) (cond (Nat.ble 29 k) (cond (Nat.ble 30 k) ((467, 466, 14, 102)) ((463, 462, 13, 104))) ((459, 458, 12, 105))) (cond (Nat.ble 26 k) (cond (Nat.ble 27 k) ((455, 454, 11, 104)) ((450, 449, 10, 105))) ((446, 445, 9, 105)))))) (cond (Nat.ble 12 k) (cond (Nat.ble 18 k) (cond (Nat.ble 21 k) (cond (Nat.ble 23 k) (cond (Nat.ble 24 k) ((442, 441, 8, 103)) ((438, 437, 7, 103))) (cond (Nat.ble 22 k) ((434, 433, 0, 105)) ((431, 430, 6, 105)))) (cond (Nat.ble 19 k) (cond (Nat.ble 20 k) ((427, 426, 0, 102)) ((424, 423, 5, 103))) ((420, 419, 4, 102)))) (cond (Nat.ble 15 k) (cond (Nat.ble 16 k) (cond (Nat.ble 17 k) ((416, 414, 415, 102)) ((411, 410, 3, 103))) ((407, 406, 2, 103))) (cond (Nat.ble 13 k) (cond (Nat.ble 14 k) ((403, 401, 402, 102)) ((399, 398, 1, 102))) ((395, 394, 0, 102))))) (cond (Nat.ble 6 k) (cond (Nat.ble 9 k) (cond (Nat.ble 10 k) (cond (Nat.ble 11 k) ((391, 389, 390, 102)) ((342, 341, 0, 112))) ((303, 302, 0, 111))) (cond (Nat.ble 7 k) (cond (Nat.ble 8 k) ((281, 280, 0, 110)) ((236, 235, 0, 109))) ((211, 210, 0, 108)))) (cond (Nat.ble 3 k) (cond (Nat.ble 4 k) (cond (Nat.ble 5 k) ((194, 193, 0, 107)) ((160, 159, 0, 106))) ((156, 155, 0, 105))) (cond (Nat.ble 1 k) (cond (Nat.ble 2 k) ((150, 149, 0, 104)) ((135, 134, 0, 103))) ((127, 126, 0, 102))))))))
def nM : Nat := 203
end
section
/-! MY INTERPRETER: a small machine over numbered cells that runs the same bytecode; part 05 shows that what it runs, the machine of the Statement runs. -/
abbrev Mem : Type := (Nat → Nat → Int32) × (Nat → Nat → Int64) × (Nat → Nat → Value) × List (Nat × Nat)
abbrev Loc1 : Type := List (Option Value)
/-- the cells 0 .. 17 were there before the law began: seven texts, their bytes, the script, three things of the JDK -/
def nOld : Nat := 18
def fR (k : Nat) : String := match k with
  | 0 => RX0 | 1 => RX1 | 2 => RX2 | 3 => RX3 | 4 => RX4 | 5 => RX5 | 6 => RX6 | 7 => RX7 | 8 => RX8 | 9 => RX9 | 10 => RX10 | 11 => RX11 | _ => "java/lang/String"
def TS : u_T := fun k => match k with
  | 0 => ("java/lang/String", "value", "[B", true)
  | _ => ("java/lang/String", "coder", "B", true)
def fT (k : Nat) : u_T := match k with
  | 0 => TX0 | 1 => TX1 | 2 => TX2 | 3 => TX3 | 4 => TX4 | 5 => TX5 | 6 => TX6 | 7 => TX7 | 8 => TX8 | 9 => TX9 | 10 => TX10 | 11 => TX11 | _ => TS
def fN (k : Nat) : Nat := match k with
  | 0 => 5 | 1 => 10 | 2 => 2 | 3 => 4 | 4 => 4 | 5 => 11 | 6 => 4 | 7 => 2 | 8 => 3 | 9 => 10 | 10 => 8 | 11 => 50 | 12 => 2 | _ => 0
def fY (k : Nat) : Nat → FieldType := match k with
  | 0 => tyX0 | 1 => tyX1 | 2 => tyX2 | 3 => tyX3 | 4 => tyX4 | 5 => tyX5 | 6 => tyX6 | 7 => tyX7 | 8 => tyX8 | 9 => tyX9 | 10 => tyX10 | 11 => tyX11 | _ => fun j => match j with | 0 => .array .byte | _ => .byte
/-- 0 an int (a byte), 1 a long, 2 a reference -/
def tK (t : FieldType) : Nat := match t with
  | .int => 0 | .byte => 0 | .long => 1 | .object _ => 2 | .array _ => 2 | _ => 3
def fK (k j : Nat) : Nat := tK (fY k j)
def upI (f : Nat → Nat → Int32) (a j : Nat) (v : Int32) : Nat → Nat → Int32 := fun x y => if x = a ∧ y = j then v else f x y
def upL (f : Nat → Nat → Int64) (a j : Nat) (v : Int64) : Nat → Nat → Int64 := fun x y => if x = a ∧ y = j then v else f x y
def upR (f : Nat → Nat → Value) (a j : Nat) (v : Value) : Nat → Nat → Value := fun x y => if x = a ∧ y = j then v else f x y
/-- the rows of a new int[n][k]: the outer one at a -/
def upG (f : Nat → Nat → Value) (a n : Nat) : Nat → Nat → Value := fun x y => if x = a ∧ y < n then .ref (a + 1 + y) else f x y
def fld (M : Mem) (k x j : Nat) : Value := match fK k j with
  | 0 => .int (M.1 x j)
  | 1 => .long (M.2.1 x j)
  | _ => M.2.2.1 x j
/-- a store of one word into the variables -/
def setV1 : Loc1 → Nat → Value → Loc1
  | [], _, _ => []
  | _ :: L, 0, v => some v :: L
  | some (.long _) :: L, 1, v => none :: setV1 L 0 v
  | some (.double _) :: L, 1, v => none :: setV1 L 0 v
  | x :: L, n + 1, v => x :: setV1 L n v
def setV2 : Loc1 → Nat → Value → Loc1
  | [], _, _ => []
  | _ :: [], 0, v => some v :: []
  | _ :: _ :: L, 0, v => some v :: none :: L
  | some (.long _) :: L, 1, v => none :: setV2 L 0 v
  | some (.double _) :: L, 1, v => none :: setV2 L 0 v
  | x :: L, n + 1, v => x :: setV2 L n v
def lenOf (i : Instr) : Nat := match i with
  | .iload _ => 2 | .aload _ => 2 | .lload _ => 2 | .istore _ => 2 | .astore _ => 2 | .lstore _ => 2 | .bipush _ => 2 | .ldc _ => 2 | .newarray _ => 2
  | .sipush _ => 3 | .ldc_w _ => 3 | .ldc2_w _ => 3 | .iinc _ _ => 3 | .ifCond _ _ => 3 | .if_icmp _ _ => 3 | .goto _ => 3 | .getfield _ => 3 | .putfield _ => 3 | .getstatic _ => 3 | .new _ => 3
  | .invokevirtual _ => 3 | .invokespecial _ => 3 | .invokestatic _ => 3 | .multianewarray _ _ => 4
  | _ => 1
def swT (pc : Nat) (df lo hi : Int) (offs : Array Int) (x : Int32) : Nat := if x.toInt < lo ∨ hi < x.toInt then ((pc : Int) + df).toNat else ((pc : Int) + offs.getD (x.toInt - lo).toNat 0).toNat
def cn0 (c : Jvm.ClassFile.Cond) (x : Int32) (a b : Nat) : Nat := match c with
  | .eq => if x = 0 then a else b
  | .ne => if ¬ x = 0 then a else b
  | .lt => if x < 0 then a else b
  | .ge => if 0 ≤ x then a else b
  | .gt => if 0 < x then a else b
  | .le => if x ≤ 0 then a else b
def cn2 (c : Jvm.ClassFile.Cond) (x y : Int32) (a b : Nat) : Nat := match c with
  | .eq => if x = y then a else b
  | .ne => if ¬ x = y then a else b
  | .lt => if x < y then a else b
  | .ge => if y ≤ x then a else b
  | .gt => if y < x then a else b
  | .le => if x ≤ y then a else b
abbrev Nx : Type := Nat × Loc1 × List Value × Mem
def sLdI (n nx : Nat) (L : Loc1) (S : List Value) (M : Mem) : Option Nx := match L[n]? with
  | some (some (.int x)) => some (nx, L, .int x :: S, M)
  | _ => none
def sLdL (n nx : Nat) (L : Loc1) (S : List Value) (M : Mem) : Option Nx := match L[n]? with
  | some (some (.long x)) => some (nx, L, .long x :: S, M)
  | _ => none
def sLdA (n nx : Nat) (L : Loc1) (S : List Value) (M : Mem) : Option Nx := match L[n]? with
  | some (some (.ref x)) => some (nx, L, .ref x :: S, M)
  | some (some .null) => some (nx, L, .null :: S, M)
  | _ => none
def sStI (n nx : Nat) (L : Loc1) (S : List Value) (M : Mem) : Option Nx := match S with
  | .int x :: S => if n < L.length then some (nx, setV1 L n (.int x), S, M) else none
  | _ => none
def sStA (n nx : Nat) (L : Loc1) (S : List Value) (M : Mem) : Option Nx := match S with
  | .ref x :: S => if n < L.length then some (nx, setV1 L n (.ref x), S, M) else none
  | _ => none
def sStL (n nx : Nat) (L : Loc1) (S : List Value) (M : Mem) : Option Nx := match S with
  | .long x :: S => if n + 1 < L.length then some (nx, setV2 L n (.long x), S, M) else none
  | _ => none
def sIncI (n : Nat) (k : Int) (nx : Nat) (L : Loc1) (S : List Value) (M : Mem) : Option Nx := match L[n]? with
  | some (some (.int x)) => some (nx, setV1 L n (.int (x + Int32.ofInt k)), S, M)
  | _ => none
def sOp2 (g : Int32 → Int32 → Int32) (nx : Nat) (L : Loc1) (S : List Value) (M : Mem) : Option Nx := match S with
  | .int y :: .int x :: S => some (nx, L, .int (g x y) :: S, M)
  | _ => none
def sDiv (g : Int32 → Int32 → Int32) (nx : Nat) (L : Loc1) (S : List Value) (M : Mem) : Option Nx := match S with
  | .int y :: .int x :: S => if y = 0 then none else some (nx, L, .int (g x y) :: S, M)
  | _ => none
def sOp1 (g : Int32 → Int32) (nx : Nat) (L : Loc1) (S : List Value) (M : Mem) : Option Nx := match S with
  | .int x :: S => some (nx, L, .int (g x) :: S, M)
  | _ => none
def sOpL (g : Int64 → Int64 → Int64) (nx : Nat) (L : Loc1) (S : List Value) (M : Mem) : Option Nx := match S with
  | .long y :: .long x :: S => some (nx, L, .long (g x y) :: S, M)
  | _ => none
def sCmpL (nx : Nat) (L : Loc1) (S : List Value) (M : Mem) : Option Nx := match S with
  | .long y :: .long x :: S => some (nx, L, .int (lg_cmp x y) :: S, M)
  | _ => none
def sI2L (nx : Nat) (L : Loc1) (S : List Value) (M : Mem) : Option Nx := match S with
  | .int x :: S => some (nx, L, .long x.toInt64 :: S, M)
  | _ => none
def sDup (nx : Nat) (L : Loc1) (S : List Value) (M : Mem) : Option Nx := match S with
  | .ref x :: S => some (nx, L, .ref x :: .ref x :: S, M)
  | .int x :: S => some (nx, L, .int x :: .int x :: S, M)
  | _ => none
def sPop (nx : Nat) (L : Loc1) (S : List Value) (M : Mem) : Option Nx := match S with
  | .int _ :: S => some (nx, L, S, M)
  | _ => none
def sIf0 (c : Jvm.ClassFile.Cond) (a nx : Nat) (L : Loc1) (S : List Value) (M : Mem) : Option Nx := match S with
  | .int x :: S => some (cn0 c x a nx, L, S, M)
  | _ => none
def sIf2 (c : Jvm.ClassFile.Cond) (a nx : Nat) (L : Loc1) (S : List Value) (M : Mem) : Option Nx := match S with
  | .int y :: .int x :: S => some (cn2 c x y a nx, L, S, M)
  | _ => none
def sSw (pc : Nat) (df lo hi : Int) (offs : Array Int) (L : Loc1) (S : List Value) (M : Mem) : Option Nx := match S with
  | .int x :: S => some (swT pc df lo hi offs x, L, S, M)
  | _ => none
def sGet (a b nx : Nat) (L : Loc1) (S : List Value) (M : Mem) : Option Nx := match S with
  | .ref x :: S => match M.2.2.2[x]? with
    | some (k, _) => if k = a then some (nx, L, fld M a x b :: S, M) else none
    | none => none
  | _ => none
def sPut (a b nx : Nat) (L : Loc1) (S : List Value) (M : Mem) : Option Nx := match S with
  | v :: .ref x :: S => match M.2.2.2[x]? with
    | some (k, _) => if k = a ∧ nOld ≤ x then
        match fK a b, v with
        | 0, .int z => some (nx, L, S, (upI M.1 x b z, M.2))
        | 1, .long z => some (nx, L, S, (M.1, upL M.2.1 x b z, M.2.2))
        | 2, .ref z => some (nx, L, S, (M.1, M.2.1, upR M.2.2.1 x b (.ref z), M.2.2.2))
        | 2, .null => some (nx, L, S, (M.1, M.2.1, upR M.2.2.1 x b .null, M.2.2.2))
        | _, _ => none
      else none
    | none => none
  | _ => none
def sNew (a nx : Nat) (L : Loc1) (S : List Value) (M : Mem) : Option Nx := if M.2.2.2.length < 1000 then some (nx, L, .ref M.2.2.2.length :: S, (M.1, M.2.1, M.2.2.1, M.2.2.2 ++ [(a, 0)])) else none
def aKind (t : ArrayType) : Nat := match t with
  | .int => 100 | .byte => 101 | .long => 102 | _ => 97
def sNewA (t : ArrayType) (nx : Nat) (L : Loc1) (S : List Value) (M : Mem) : Option Nx := match S with
  | .int n :: S => if ¬ n < 0 ∧ n.toNatClampNeg ≤ 900 ∧ M.2.2.2.length < 1000 ∧ aKind t ≠ 97 then some (nx, L, .ref M.2.2.2.length :: S, (M.1, M.2.1, M.2.2.1, M.2.2.2 ++ [(aKind t, n.toNatClampNeg)])) else none
  | _ => none
def sNewG (nx : Nat) (L : Loc1) (S : List Value) (M : Mem) : Option Nx := match S with
  | .int k :: .int n :: S => if ¬ n < 0 ∧ ¬ k < 0 ∧ n.toNatClampNeg ≤ 900 ∧ k.toNatClampNeg ≤ 900 ∧ M.2.2.2.length + n.toNatClampNeg < 1000 then
      some (nx, L, .ref M.2.2.2.length :: S, (M.1, M.2.1, upG M.2.2.1 M.2.2.2.length n.toNatClampNeg, M.2.2.2 ++ (103, n.toNatClampNeg) :: List.replicate n.toNatClampNeg (100, k.toNatClampNeg))) else none
  | _ => none
def sLen (nx : Nat) (L : Loc1) (S : List Value) (M : Mem) : Option Nx := match S with
  | .ref x :: S => match M.2.2.2[x]? with
    | some (k, n) => if 100 ≤ k ∧ k ≤ 103 then some (nx, L, .int (Int32.ofNat n) :: S, M) else none
    | none => none
  | _ => none
def aIn (i : Int32) (n : Nat) : Prop := ¬ (i < 0 ∨ n ≤ i.toNatClampNeg)
def sAld (kd nx : Nat) (L : Loc1) (S : List Value) (M : Mem) : Option Nx := match S with
  | .int i :: .ref x :: S => match M.2.2.2[x]? with
    | some (k, n) => if k = kd ∧ ¬ (i < 0 ∨ n ≤ i.toNatClampNeg) then some (nx, L, .int (M.1 x i.toNatClampNeg) :: S, M) else none
    | none => none
  | _ => none
def sLld (nx : Nat) (L : Loc1) (S : List Value) (M : Mem) : Option Nx := match S with
  | .int i :: .ref x :: S => match M.2.2.2[x]? with
    | some (k, n) => if k = 102 ∧ ¬ (i < 0 ∨ n ≤ i.toNatClampNeg) then some (nx, L, .long (M.2.1 x i.toNatClampNeg) :: S, M) else none
    | none => none
  | _ => none
def sRld (nx : Nat) (L : Loc1) (S : List Value) (M : Mem) : Option Nx := match S with
  | .int i :: .ref x :: S => match M.2.2.2[x]? with
    | some (k, n) => if k = 103 ∧ ¬ (i < 0 ∨ n ≤ i.toNatClampNeg) then some (nx, L, M.2.2.1 x i.toNatClampNeg :: S, M) else none
    | none => none
  | _ => none
def sAst (kd : Nat) (g : Int32 → Int32) (nx : Nat) (L : Loc1) (S : List Value) (M : Mem) : Option Nx := match S with
  | .int v :: .int i :: .ref x :: S => match M.2.2.2[x]? with
    | some (k, n) => if k = kd ∧ nOld ≤ x ∧ ¬ (i < 0 ∨ n ≤ i.toNatClampNeg) then some (nx, L, S, (upI M.1 x i.toNatClampNeg (g v), M.2)) else none
    | none => none
  | _ => none
def sLst (nx : Nat) (L : Loc1) (S : List Value) (M : Mem) : Option Nx := match S with
  | .long v :: .int i :: .ref x :: S => match M.2.2.2[x]? with
    | some (k, n) => if k = 102 ∧ nOld ≤ x ∧ ¬ (i < 0 ∨ n ≤ i.toNatClampNeg) then some (nx, L, S, (M.1, upL M.2.1 x i.toNatClampNeg v, M.2.2)) else none
    | none => none
  | _ => none
/-- one instruction that is no call and no end -/
def stp (sv : Nat → Value) (i : Instr) (nx a b : Nat) (v : Int64) (pc : Nat) (L : Loc1) (S : List Value) (M : Mem) : Option Nx := match i with
  | .iload n => sLdI n nx L S M
  | .iload_n n => sLdI n.val nx L S M
  | .lload n => sLdL n nx L S M
  | .lload_n n => sLdL n.val nx L S M
  | .aload n => sLdA n nx L S M
  | .aload_n n => sLdA n.val nx L S M
  | .istore n => sStI n nx L S M
  | .istore_n n => sStI n.val nx L S M
  | .lstore n => sStL n nx L S M
  | .lstore_n n => sStL n.val nx L S M
  | .astore n => sStA n nx L S M
  | .astore_n n => sStA n.val nx L S M
  | .iinc n k => sIncI n k nx L S M
  | .iconst k => some (nx, L, .int (Int32.ofInt k) :: S, M)
  | .bipush k => some (nx, L, .int (Int8.ofInt k).toInt32 :: S, M)
  | .sipush k => some (nx, L, .int (Int16.ofInt k).toInt32 :: S, M)
  | .lconst k => some (nx, L, .long (Int64.ofNat k.val) :: S, M)
  | .aconst_null => some (nx, L, .null :: S, M)
  | .ldc _ => cond (Nat.beq a 0) (some (nx, L, .int v.toInt32 :: S, M)) (some (nx, L, .ref b :: S, M))
  | .ldc_w _ => some (nx, L, .int v.toInt32 :: S, M)
  | .ldc2_w _ => some (nx, L, .long v :: S, M)
  | .iadd => sOp2 (fun x y => x + y) nx L S M
  | .isub => sOp2 (fun x y => x - y) nx L S M
  | .imul => sOp2 (fun x y => x * y) nx L S M
  | .iand => sOp2 (fun x y => x &&& y) nx L S M
  | .ior => sOp2 (fun x y => x ||| y) nx L S M
  | .ixor => sOp2 (fun x y => x ^^^ y) nx L S M
  | .ishl => sOp2 (fun x y => x <<< (y &&& 31)) nx L S M
  | .ishr => sOp2 (fun x y => x >>> (y &&& 31)) nx L S M
  | .iushr => sOp2 (fun x y => (x.toUInt32 >>> (y.toUInt32 &&& Int32.toUInt32 31)).toInt32) nx L S M
  | .idiv => sDiv (fun x y => x / y) nx L S M
  | .irem => sDiv (fun x y => x - x / y * y) nx L S M
  | .ineg => sOp1 (fun x => -x) nx L S M
  | .i2b => sOp1 (fun x => x.toInt8.toInt32) nx L S M
  | .i2c => sOp1 (fun x => (x.toUInt32 % 65536).toInt32) nx L S M
  | .ladd => sOpL (fun x y => x + y) nx L S M
  | .lmul => sOpL (fun x y => x * y) nx L S M
  | .lcmp => sCmpL nx L S M
  | .i2l => sI2L nx L S M
  | .dup => sDup nx L S M
  | .pop => sPop nx L S M
  | .goto _ => some (a, L, S, M)
  | .ifCond c _ => sIf0 c a nx L S M
  | .if_icmp c _ => sIf2 c a nx L S M
  | .tableswitch df lo hi offs => sSw pc df lo hi offs L S M
  | .getfield _ => sGet a b nx L S M
  | .putfield _ => sPut a b nx L S M
  | .getstatic _ => some (nx, L, sv a :: S, M)
  | .new _ => sNew a nx L S M
  | .newarray t => sNewA t nx L S M
  | .multianewarray _ _ => sNewG nx L S M
  | .arraylength => sLen nx L S M
  | .iaload => sAld 100 nx L S M
  | .baload => sAld 101 nx L S M
  | .laload => sLld nx L S M
  | .aaload => sRld nx L S M
  | .iastore => sAst 100 (fun z => z) nx L S M
  | .bastore => sAst 101 (fun z => z.toInt8.toInt32) nx L S M
  | .lastore => sLst nx L S M
  | _ => none
/-- how a method ends: it returns, or it throws the object of a cell -/
abbrev Fin1 : Type := Option Value ⊕ Nat
def slotsOf (vs : List Value) : Loc1 := vs.flatMap fun v => if v.category = 2 then [some v, none] else [some v]
def entL (k : Nat) (vs : List Value) : Loc1 := slotsOf vs ++ List.replicate (mL k - (slotsOf vs).length) none
def argsOf (a : Nat) (S : List Value) : List Value := (S.take (mN a)).reverse
/-- a call has its values, its caller keeps few, and the variables have room -/
def cOk (a : Nat) (S : List Value) : Bool := Nat.ble (mN a) S.length && Nat.ble (S.drop (mN a)).length 6 && Nat.ble (slotsOf (argsOf a S)).length (mL a)
/-- the receiver is there, and of the kind that the method belongs to -/
def rcv (a : Nat) (As : List Value) (M : Mem) : Bool := match As with
  | .ref x :: _ => match M.2.2.2[x]? with
    | some (k, _) => Nat.beq k (mK a)
    | none => false
  | _ => false
def isInit (As : List Value) : Bool := match As with
  | .ref _ :: _ => true
  | _ => false
def nar (k : Nat) (v : Value) : Option Fin1 := match mR k with
  | some t => if narrow t v = v then some (.inl (some v)) else none
  | none => none
def exec (sv : Nat → Value) : Nat → Nat → Nat → Nat → Loc1 → List Value → Mem → Option (Fin1 × Mem)
  | 0, _, _, _, _, _, _ => none
  | n + 1, d, k, pc, L, S, M => match ri k pc with
    | none => none
    | some (i, nx, a, b, _, v) => match i with
      | .invokevirtual _ => match d with
        | 0 => none
        | d' + 1 => cond (rcv a (argsOf a S) M && Nat.beq (mS a) 0 && cOk a S)
          (match exec sv n d' a 0 (entL a (argsOf a S)) [] M with
            | some (.inl o, M') => exec sv n d k nx L (o.toList ++ S.drop (mN a)) M'
            | some (.inr x, M') => match mH k with
              | [] => some (.inr x, M')
              | (lo, hi, hp, _) :: _ => match M'.2.2.2[x]? with
                | some (10, _) => cond (Nat.ble lo pc && Nat.blt pc hi) (exec sv n d k hp L [.ref x] M') none
                | _ => none
            | none => none) none
      | .invokestatic _ => match d with
        | 0 => none
        | d' + 1 => cond (Nat.beq (mS a) 1 && cOk a S)
          (match exec sv n d' a 0 (entL a (argsOf a S)) [] M with
            | some (.inl o, M') => exec sv n d k nx L (o.toList ++ S.drop (mN a)) M'
            | _ => none) none
      | .invokespecial _ => match d with
        | 0 => none
        | d' + 1 => cond (Nat.beq b 2)
          (match S with
            | .ref _ :: S' => cond (Nat.ble S'.length 6) (exec sv n d k nx L S' M) none
            | _ => none)
          (cond (isInit (argsOf a S) && Nat.beq (mS a) 0 && cOk a S)
            (match exec sv n d' a 0 (entL a (argsOf a S)) [] M with
              | some (.inl none, M') => exec sv n d k nx L (S.drop (mN a)) M'
              | _ => none) none)
      | .ireturn => match S with
        | [.int x] => match nar k (.int x) with
          | some o => some (o, M)
          | none => none
        | _ => none
      | .lreturn => match S with
        | [.long x] => match mR k with
          | some .long => some (.inl (some (.long x)), M)
          | _ => none
        | _ => none
      | .areturn => match S with
        | [.ref x] => match mR k with
          | some (.object _) => some (.inl (some (.ref x)), M)
          | _ => none
        | _ => none
      | .return_ => match S with
        | [] => match mR k with
          | none => some (.inl none, M)
          | some _ => none
        | _ => none
      | .athrow => match S with
        | [.ref x] => match mH k with
          | [] => some (.inr x, M)
          | _ => none
        | _ => none
      | _ => match stp sv i nx a b v pc L S M with
        | some (pc', L', S', M') => exec sv n d k pc' L' S' M'
        | none => none
end
section
/-- a word of the tables by its place -/
def tbW (c : Nat) : Option Cond := cond (Nat.ble 96 c) (cond (Nat.ble 581 c) (cond (Nat.ble 1061 c) (cond (Nat.ble 1301 c) (tables_1_6[c - 1301]?) (tables_1_5[c - 1061]?)) (cond (Nat.ble 821 c) (tables_1_4[c - 821]?) (tables_1_3[c - 581]?))) (cond (Nat.ble 101 c) (cond (Nat.ble 341 c) (tables_1_2[c - 341]?) (tables_1_1[c - 101]?)) ((k2_sels lw_privs_7)[c - 96]?))) (cond (Nat.ble 48 c) (cond (Nat.ble 64 c) (cond (Nat.ble 80 c) ((k2_sels lw_privs_6)[c - 80]?) ((k2_sels lw_privs_5)[c - 64]?)) ((k2_sels lw_privs_4)[c - 48]?)) (cond (Nat.ble 16 c) (cond (Nat.ble 32 c) ((k2_sels lw_privs_3)[c - 32]?) ((k2_sels lw_privs_2)[c - 16]?)) ((k2_sels lw_privs_1)[c - 0]?)))
theorem tbW_in {c : Nat} {w : Cond} (h : tbW c = some w) : w ∈ lw_tbl := by
  unfold tbW at h
  unfold lw_tbl lw_privs k2_sels tables_1
  unfold k2_sels at h
  simp only [List.map_append, List.mem_append]
  have hm : ∀ {l : List Cond} {i : Nat}, l[i]? = some w → w ∈ l := fun h => List.mem_of_getElem? h
  have hc : ∀ {b : Bool} {x y : Option Cond}, cond b x y = some w → x = some w ∨ y = some w := fun {b x y} h => by cases b; exact Or.inr h; exact Or.inl h
  rcases hc h with h | h
  · rcases hc h with h | h
    · rcases hc h with h | h
      · rcases hc h with h | h
        · have h := hm h
          simp only [h, true_or, or_true]
        · have h := hm h
          simp only [h, true_or, or_true]
      · rcases hc h with h | h
        · have h := hm h
          simp only [h, true_or, or_true]
        · have h := hm h
          simp only [h, true_or, or_true]
    · rcases hc h with h | h
      · rcases hc h with h | h
        · have h := hm h
          simp only [h, true_or, or_true]
        · have h := hm h
          simp only [h, true_or, or_true]
      · have h := hm h
        simp only [h, true_or, or_true]
  · rcases hc h with h | h
    · rcases hc h with h | h
      · rcases hc h with h | h
        · have h := hm h
          simp only [h, true_or, or_true]
        · have h := hm h
          simp only [h, true_or, or_true]
      · have h := hm h
        simp only [h, true_or, or_true]
    · rcases hc h with h | h
      · rcases hc h with h | h
        · have h := hm h
          simp only [h, true_or, or_true]
        · have h := hm h
          simp only [h, true_or, or_true]
      · have h := hm h
        simp only [h, true_or, or_true]
/-! the tables are those of the Statement: what a program decides -/
def hitF (own : String) (idx a b c : Nat) : Bool := match tbW c with
  | some (.fieldLink o j r n d) => decide (o = own) && Nat.beq j idx && decide (r = (fT a b).1) && decide (n = (fT a b).2.1) && decide (d = (fT a b).2.2.1)
  | some (.fieldLinkNest o j r n d _) => decide (o = own) && Nat.beq j idx && decide (r = (fT a b).1) && decide (n = (fT a b).2.1) && decide (d = (fT a b).2.2.1)
  | _ => false
def isNest (c : Nat) : Bool := match tbW c with
  | some (.fieldLinkNest _ _ _ _ _ _) => true
  | _ => false
def hitM (own : String) (idx : Nat) (y : MethodName) (c : Nat) : Bool := match tbW c with
  | some (.methodLink o j z) => decide (o = own) && Nat.beq j idx && decide (z = y)
  | some (.methodLinkNest o j z _) => decide (o = own) && Nat.beq j idx && decide (z = y)
  | _ => false
def tx7 (b : Nat) : String := match b with
  | 0 => "in" | 1 => "has" | 2 => "hides" | 3 => "ploughs" | 4 => "mills" | 5 => "worth" | _ => "was"
def st4 (a : Nat) : String × String × String := match a with
  | 0 => ("java/lang/String", "COMPACT_STRINGS", "Z")
  | 1 => ("jdk/internal/util/Preconditions", "SIOOBE_FORMATTER", "Ljava/util/function/BiFunction;")
  | 2 => ("java/lang/Throwable", "UNASSIGNED_STACK", "[Ljava/lang/StackTraceElement;")
  | _ => ("java/lang/Throwable", "SUPPRESSED_SENTINEL", "Ljava/util/List;")
def insts (a : Nat) : Nat := match a with
  | 0 => 5 | 1 => 10 | 2 => 2 | 3 => 4 | 4 => 4 | 5 => 11 | 6 => 4 | 7 => 2 | 8 => 3 | 9 => 10 | 10 => 8 | _ => 50
def wordB (own mname : String) (i : Instr) (nx a b c : Nat) (v : Int64) (pc : Nat) : Bool := match i with
  | .getfield idx => Nat.blt a 13 && Nat.blt b (fN a) && hitF own idx a b c
  | .putfield idx => Nat.blt a 12 && Nat.blt b (fN a) && hitF own idx a b c && (!(fT a b).2.2.2 || (decide (mname = "<init>") && decide ((fT a b).1 = own) && !isNest c))
  | .getstatic idx => Nat.blt a 4 && decide (tbW c = some (.fieldLink own idx (st4 a).1 (st4 a).2.1 (st4 a).2.2))
  | .ifCond _ off => decide ((pc : Int) + off = (a : Int))
  | .if_icmp _ off => decide ((pc : Int) + off = (a : Int))
  | .goto off => decide ((pc : Int) + off = (a : Int))
  | .tableswitch df lo hi offs => decide (0 ≤ (pc : Int) + df) && offs.toList.all (fun o => decide (0 ≤ (pc : Int) + o)) && decide ((offs.size : Int) = hi - lo + 1)
  | .new idx => Nat.blt a 12 && decide (tbW c = some (.classLink own idx (fR a)))
  | .multianewarray idx n => Nat.beq n 2 && decide (tbW c = some (.classLink own idx "[[I"))
  | .invokevirtual idx => Nat.blt a nM && Nat.beq (mS a) 0 && hitM own idx (mY a) c
  | .invokestatic idx => Nat.blt a nM && Nat.beq (mS a) 1 && hitM own idx (mY a) c && !decide ((mY a).name = "<init>")
  | .invokespecial idx => cond (Nat.beq b 2) (decide (tbW c = some (.methodLink own idx objectInit))) (Nat.blt a nM && Nat.beq (mS a) 0 && hitM own idx (mY a) c && decide ((mY a).name = "<init>"))
  | .ldc idx => cond (Nat.beq a 0) (decide (tbW c = some (.constant own idx v.toInt32))) (Nat.beq a 1 && Nat.blt b 7 && decide (tbW c = some (.stringRef own idx (tx7 b))))
  | .ldc_w idx => decide (tbW c = some (.constant own idx v.toInt32))
  | .ldc2_w idx => decide (tbW c = some (.constantLong own idx v))
  | _ => true
def isSw (i : Instr) : Bool := match i with
  | .tableswitch _ _ _ _ => true
  | _ => false
def chk (k pc : Nat) : Bool := match ri k pc with
  | none => true
  | some (i, nx, a, b, c, v) => decide (decode (mB k) pc = .ok (i, nx - pc)) && Nat.ble pc nx && (isSw i || Nat.beq nx (pc + lenOf i)) && wordB (mY k).cls (mY k).name i nx a b c v pc
theorem all_range {p : Nat → Bool} (a n : Nat) (h : (List.range' a n).all p = true) : ∀ x, a ≤ x → x < a + n → p x = true := fun x h1 h2 => List.all_eq_true.mp h x (List.mem_range'_1.mpr ⟨h1, h2⟩)
set_option maxRecDepth 100000 in
theorem ck_0_0 : (List.range' 0 115).all (chk 0) = true := by decide +kernel
set_option maxRecDepth 100000 in
theorem ck_1_0 : (List.range' 0 19).all (chk 1) = true := by decide +kernel
set_option maxRecDepth 100000 in
theorem ck_2_0 : (List.range' 0 34).all (chk 2) = true := by decide +kernel
set_option maxRecDepth 100000 in
theorem ck_3_0 : (List.range' 0 37).all (chk 3) = true := by decide +kernel
set_option maxRecDepth 100000 in
theorem ck_4_0 : (List.range' 0 11).all (chk 4) = true := by decide +kernel
set_option maxRecDepth 100000 in
theorem ck_5_0 : (List.range' 0 26).all (chk 5) = true := by decide +kernel
set_option maxRecDepth 100000 in
theorem ck_6_0 : (List.range' 0 39).all (chk 6) = true := by decide +kernel
set_option maxRecDepth 100000 in
theorem ck_7_0 : (List.range' 0 68).all (chk 7) = true := by decide +kernel
set_option maxRecDepth 100000 in
theorem ck_8_0 : (List.range' 0 39).all (chk 8) = true := by decide +kernel
set_option maxRecDepth 100000 in
theorem ck_9_0 : (List.range' 0 81).all (chk 9) = true := by decide +kernel
set_option maxRecDepth 100000 in
theorem ck_10_0 : (List.range' 0 26).all (chk 10) = true := by decide +kernel
set_option maxRecDepth 100000 in
theorem ck_11_0 : (List.range' 0 36).all (chk 11) = true := by decide +kernel
set_option maxRecDepth 100000 in
theorem ck_12_0 : (List.range' 0 7).all (chk 12) = true := by decide +kernel
set_option maxRecDepth 100000 in
theorem ck_13_0 : (List.range' 0 7).all (chk 13) = true := by decide +kernel
set_option maxRecDepth 100000 in
theorem ck_14_0 : (List.range' 0 64).all (chk 14) = true := by decide +kernel
set_option maxRecDepth 100000 in
theorem ck_15_0 : (List.range' 0 18).all (chk 15) = true := by decide +kernel
set_option maxRecDepth 100000 in
theorem ck_16_0 : (List.range' 0 45).all (chk 16) = true := by decide +kernel
set_option maxRecDepth 100000 in
theorem ck_17_0 : (List.range' 0 91).all (chk 17) = true := by decide +kernel
set_option maxRecDepth 100000 in
theorem ck_18_0 : (List.range' 0 18).all (chk 18) = true := by decide +kernel
set_option maxRecDepth 100000 in
theorem ck_19_0 : (List.range' 0 18).all (chk 19) = true := by decide +kernel
set_option maxRecDepth 100000 in
theorem ck_20_0 : (List.range' 0 15).all (chk 20) = true := by decide +kernel
set_option maxRecDepth 100000 in
theorem ck_21_0 : (List.range' 0 40).all (chk 21) = true := by decide +kernel
set_option maxRecDepth 100000 in
theorem ck_22_0 : (List.range' 0 41).all (chk 22) = true := by decide +kernel
set_option maxRecDepth 100000 in
theorem ck_23_0 : (List.range' 0 68).all (chk 23) = true := by decide +kernel
set_option maxRecDepth 100000 in
theorem ck_24_0 : (List.range' 0 27).all (chk 24) = true := by decide +kernel
set_option maxRecDepth 100000 in
theorem ck_25_0 : (List.range' 0 47).all (chk 25) = true := by decide +kernel
set_option maxRecDepth 100000 in
theorem ck_26_0 : (List.range' 0 47).all (chk 26) = true := by decide +kernel
set_option maxRecDepth 100000 in
theorem ck_27_0 : (List.range' 0 38).all (chk 27) = true := by decide +kernel
set_option maxRecDepth 100000 in
theorem ck_28_0 : (List.range' 0 79).all (chk 28) = true := by decide +kernel
set_option maxRecDepth 100000 in
theorem ck_29_0 : (List.range' 0 21).all (chk 29) = true := by decide +kernel
set_option maxRecDepth 100000 in
theorem ck_30_0 : (List.range' 0 30).all (chk 30) = true := by decide +kernel
set_option maxRecDepth 100000 in
theorem ck_31_0 : (List.range' 0 6).all (chk 31) = true := by decide +kernel
set_option maxRecDepth 100000 in
theorem ck_32_0 : (List.range' 0 85).all (chk 32) = true := by decide +kernel
set_option maxRecDepth 100000 in
theorem ck_33_0 : (List.range' 0 21).all (chk 33) = true := by decide +kernel
set_option maxRecDepth 100000 in
theorem ck_34_0 : (List.range' 0 15).all (chk 34) = true := by decide +kernel
set_option maxRecDepth 100000 in
theorem ck_35_0 : (List.range' 0 16).all (chk 35) = true := by decide +kernel
set_option maxRecDepth 100000 in
theorem ck_36_0 : (List.range' 0 87).all (chk 36) = true := by decide +kernel
set_option maxRecDepth 100000 in
theorem ck_37_0 : (List.range' 0 42).all (chk 37) = true := by decide +kernel
set_option maxRecDepth 100000 in
theorem ck_38_0 : (List.range' 0 19).all (chk 38) = true := by decide +kernel
set_option maxRecDepth 100000 in
theorem ck_39_0 : (List.range' 0 47).all (chk 39) = true := by decide +kernel
set_option maxRecDepth 100000 in
theorem ck_40_0 : (List.range' 0 83).all (chk 40) = true := by decide +kernel
set_option maxRecDepth 100000 in
theorem ck_41_0 : (List.range' 0 150).all (chk 41) = true := by decide +kernel
set_option maxRecDepth 100000 in
theorem ck_41_150 : (List.range' 150 37).all (chk 41) = true := by decide +kernel
set_option maxRecDepth 100000 in
theorem ck_42_0 : (List.range' 0 150).all (chk 42) = true := by decide +kernel
set_option maxRecDepth 100000 in
theorem ck_42_150 : (List.range' 150 35).all (chk 42) = true := by decide +kernel
set_option maxRecDepth 100000 in
theorem ck_43_0 : (List.range' 0 67).all (chk 43) = true := by decide +kernel
set_option maxRecDepth 100000 in
theorem ck_44_0 : (List.range' 0 11).all (chk 44) = true := by decide +kernel
set_option maxRecDepth 100000 in
theorem ck_45_0 : (List.range' 0 15).all (chk 45) = true := by decide +kernel
set_option maxRecDepth 100000 in
theorem ck_46_0 : (List.range' 0 25).all (chk 46) = true := by decide +kernel
set_option maxRecDepth 100000 in
theorem ck_47_0 : (List.range' 0 19).all (chk 47) = true := by decide +kernel
set_option maxRecDepth 100000 in
theorem ck_48_0 : (List.range' 0 15).all (chk 48) = true := by decide +kernel
set_option maxRecDepth 100000 in
theorem ck_49_0 : (List.range' 0 10).all (chk 49) = true := by decide +kernel
set_option maxRecDepth 100000 in
theorem ck_50_0 : (List.range' 0 18).all (chk 50) = true := by decide +kernel
set_option maxRecDepth 100000 in
theorem ck_51_0 : (List.range' 0 15).all (chk 51) = true := by decide +kernel
set_option maxRecDepth 100000 in
theorem ck_52_0 : (List.range' 0 19).all (chk 52) = true := by decide +kernel
set_option maxRecDepth 100000 in
theorem ck_53_0 : (List.range' 0 51).all (chk 53) = true := by decide +kernel
set_option maxRecDepth 100000 in
theorem ck_54_0 : (List.range' 0 125).all (chk 54) = true := by decide +kernel
set_option maxRecDepth 100000 in
theorem ck_55_0 : (List.range' 0 40).all (chk 55) = true := by decide +kernel
set_option maxRecDepth 100000 in
theorem ck_56_0 : (List.range' 0 59).all (chk 56) = true := by decide +kernel
set_option maxRecDepth 100000 in
theorem ck_57_0 : (List.range' 0 53).all (chk 57) = true := by decide +kernel
set_option maxRecDepth 100000 in
theorem ck_58_0 : (List.range' 0 150).all (chk 58) = true := by decide +kernel
set_option maxRecDepth 100000 in
theorem ck_58_150 : (List.range' 150 21).all (chk 58) = true := by decide +kernel
set_option maxRecDepth 100000 in
theorem ck_59_0 : (List.range' 0 50).all (chk 59) = true := by decide +kernel
set_option maxRecDepth 100000 in
theorem ck_60_0 : (List.range' 0 8).all (chk 60) = true := by decide +kernel
set_option maxRecDepth 100000 in
theorem ck_61_0 : (List.range' 0 20).all (chk 61) = true := by decide +kernel
set_option maxRecDepth 100000 in
theorem ck_62_0 : (List.range' 0 10).all (chk 62) = true := by decide +kernel
set_option maxRecDepth 100000 in
theorem ck_63_0 : (List.range' 0 45).all (chk 63) = true := by decide +kernel
set_option maxRecDepth 100000 in
theorem ck_64_0 : (List.range' 0 10).all (chk 64) = true := by decide +kernel
set_option maxRecDepth 100000 in
theorem ck_65_0 : (List.range' 0 44).all (chk 65) = true := by decide +kernel
set_option maxRecDepth 100000 in
theorem ck_66_0 : (List.range' 0 76).all (chk 66) = true := by decide +kernel
set_option maxRecDepth 100000 in
theorem ck_67_0 : (List.range' 0 21).all (chk 67) = true := by decide +kernel
set_option maxRecDepth 100000 in
theorem ck_68_0 : (List.range' 0 47).all (chk 68) = true := by decide +kernel
set_option maxRecDepth 100000 in
theorem ck_69_0 : (List.range' 0 24).all (chk 69) = true := by decide +kernel
set_option maxRecDepth 100000 in
theorem ck_70_0 : (List.range' 0 15).all (chk 70) = true := by decide +kernel
set_option maxRecDepth 100000 in
theorem ck_71_0 : (List.range' 0 13).all (chk 71) = true := by decide +kernel
set_option maxRecDepth 100000 in
theorem ck_72_0 : (List.range' 0 45).all (chk 72) = true := by decide +kernel
set_option maxRecDepth 100000 in
theorem ck_73_0 : (List.range' 0 19).all (chk 73) = true := by decide +kernel
set_option maxRecDepth 100000 in
theorem ck_74_0 : (List.range' 0 58).all (chk 74) = true := by decide +kernel
set_option maxRecDepth 100000 in
theorem ck_75_0 : (List.range' 0 38).all (chk 75) = true := by decide +kernel
set_option maxRecDepth 100000 in
theorem ck_76_0 : (List.range' 0 40).all (chk 76) = true := by decide +kernel
set_option maxRecDepth 100000 in
theorem ck_77_0 : (List.range' 0 95).all (chk 77) = true := by decide +kernel
set_option maxRecDepth 100000 in
theorem ck_78_0 : (List.range' 0 56).all (chk 78) = true := by decide +kernel
set_option maxRecDepth 100000 in
theorem ck_79_0 : (List.range' 0 57).all (chk 79) = true := by decide +kernel
set_option maxRecDepth 100000 in
theorem ck_80_0 : (List.range' 0 11).all (chk 80) = true := by decide +kernel
set_option maxRecDepth 100000 in
theorem ck_81_0 : (List.range' 0 66).all (chk 81) = true := by decide +kernel
set_option maxRecDepth 100000 in
theorem ck_82_0 : (List.range' 0 53).all (chk 82) = true := by decide +kernel
set_option maxRecDepth 100000 in
theorem ck_83_0 : (List.range' 0 39).all (chk 83) = true := by decide +kernel
set_option maxRecDepth 100000 in
theorem ck_84_0 : (List.range' 0 57).all (chk 84) = true := by decide +kernel
set_option maxRecDepth 100000 in
theorem ck_85_0 : (List.range' 0 9).all (chk 85) = true := by decide +kernel
set_option maxRecDepth 100000 in
theorem ck_86_0 : (List.range' 0 23).all (chk 86) = true := by decide +kernel
set_option maxRecDepth 100000 in
theorem ck_87_0 : (List.range' 0 37).all (chk 87) = true := by decide +kernel
set_option maxRecDepth 100000 in
theorem ck_88_0 : (List.range' 0 44).all (chk 88) = true := by decide +kernel
set_option maxRecDepth 100000 in
theorem ck_89_0 : (List.range' 0 46).all (chk 89) = true := by decide +kernel
set_option maxRecDepth 100000 in
theorem ck_90_0 : (List.range' 0 25).all (chk 90) = true := by decide +kernel
set_option maxRecDepth 100000 in
theorem ck_91_0 : (List.range' 0 134).all (chk 91) = true := by decide +kernel
set_option maxRecDepth 100000 in
theorem ck_92_0 : (List.range' 0 13).all (chk 92) = true := by decide +kernel
set_option maxRecDepth 100000 in
theorem ck_93_0 : (List.range' 0 94).all (chk 93) = true := by decide +kernel
set_option maxRecDepth 100000 in
theorem ck_94_0 : (List.range' 0 11).all (chk 94) = true := by decide +kernel
set_option maxRecDepth 100000 in
theorem ck_95_0 : (List.range' 0 80).all (chk 95) = true := by decide +kernel
set_option maxRecDepth 100000 in
theorem ck_96_0 : (List.range' 0 56).all (chk 96) = true := by decide +kernel
set_option maxRecDepth 100000 in
theorem ck_97_0 : (List.range' 0 24).all (chk 97) = true := by decide +kernel
set_option maxRecDepth 100000 in
theorem ck_98_0 : (List.range' 0 104).all (chk 98) = true := by decide +kernel
set_option maxRecDepth 100000 in
theorem ck_99_0 : (List.range' 0 46).all (chk 99) = true := by decide +kernel
set_option maxRecDepth 100000 in
theorem ck_100_0 : (List.range' 0 8).all (chk 100) = true := by decide +kernel
set_option maxRecDepth 100000 in
theorem ck_101_0 : (List.range' 0 10).all (chk 101) = true := by decide +kernel
set_option maxRecDepth 100000 in
theorem ck_102_0 : (List.range' 0 34).all (chk 102) = true := by decide +kernel
set_option maxRecDepth 100000 in
theorem ck_103_0 : (List.range' 0 30).all (chk 103) = true := by decide +kernel
set_option maxRecDepth 100000 in
theorem ck_104_0 : (List.range' 0 15).all (chk 104) = true := by decide +kernel
set_option maxRecDepth 100000 in
theorem ck_105_0 : (List.range' 0 90).all (chk 105) = true := by decide +kernel
set_option maxRecDepth 100000 in
theorem ck_106_0 : (List.range' 0 54).all (chk 106) = true := by decide +kernel
set_option maxRecDepth 100000 in
theorem ck_107_0 : (List.range' 0 24).all (chk 107) = true := by decide +kernel
set_option maxRecDepth 100000 in
theorem ck_108_0 : (List.range' 0 33).all (chk 108) = true := by decide +kernel
set_option maxRecDepth 100000 in
theorem ck_109_0 : (List.range' 0 62).all (chk 109) = true := by decide +kernel
set_option maxRecDepth 100000 in
theorem ck_110_0 : (List.range' 0 68).all (chk 110) = true := by decide +kernel
set_option maxRecDepth 100000 in
theorem ck_111_0 : (List.range' 0 81).all (chk 111) = true := by decide +kernel
set_option maxRecDepth 100000 in
theorem ck_112_0 : (List.range' 0 22).all (chk 112) = true := by decide +kernel
set_option maxRecDepth 100000 in
theorem ck_113_0 : (List.range' 0 27).all (chk 113) = true := by decide +kernel
set_option maxRecDepth 100000 in
theorem ck_114_0 : (List.range' 0 74).all (chk 114) = true := by decide +kernel
set_option maxRecDepth 100000 in
theorem ck_115_0 : (List.range' 0 17).all (chk 115) = true := by decide +kernel
set_option maxRecDepth 100000 in
theorem ck_116_0 : (List.range' 0 38).all (chk 116) = true := by decide +kernel
set_option maxRecDepth 100000 in
theorem ck_117_0 : (List.range' 0 15).all (chk 117) = true := by decide +kernel
set_option maxRecDepth 100000 in
theorem ck_118_0 : (List.range' 0 34).all (chk 118) = true := by decide +kernel
set_option maxRecDepth 100000 in
theorem ck_119_0 : (List.range' 0 48).all (chk 119) = true := by decide +kernel
set_option maxRecDepth 100000 in
theorem ck_120_0 : (List.range' 0 65).all (chk 120) = true := by decide +kernel
set_option maxRecDepth 100000 in
theorem ck_121_0 : (List.range' 0 69).all (chk 121) = true := by decide +kernel
set_option maxRecDepth 100000 in
theorem ck_122_0 : (List.range' 0 66).all (chk 122) = true := by decide +kernel
set_option maxRecDepth 100000 in
theorem ck_123_0 : (List.range' 0 102).all (chk 123) = true := by decide +kernel
set_option maxRecDepth 100000 in
theorem ck_124_0 : (List.range' 0 37).all (chk 124) = true := by decide +kernel
set_option maxRecDepth 100000 in
theorem ck_125_0 : (List.range' 0 5).all (chk 125) = true := by decide +kernel
set_option maxRecDepth 100000 in
theorem ck_126_0 : (List.range' 0 150).all (chk 126) = true := by decide +kernel
set_option maxRecDepth 100000 in
theorem ck_126_150 : (List.range' 150 63).all (chk 126) = true := by decide +kernel
set_option maxRecDepth 100000 in
theorem ck_127_0 : (List.range' 0 9).all (chk 127) = true := by decide +kernel
set_option maxRecDepth 100000 in
theorem ck_128_0 : (List.range' 0 10).all (chk 128) = true := by decide +kernel
set_option maxRecDepth 100000 in
theorem ck_129_0 : (List.range' 0 10).all (chk 129) = true := by decide +kernel
set_option maxRecDepth 100000 in
theorem ck_130_0 : (List.range' 0 61).all (chk 130) = true := by decide +kernel
set_option maxRecDepth 100000 in
theorem ck_131_0 : (List.range' 0 122).all (chk 131) = true := by decide +kernel
set_option maxRecDepth 100000 in
theorem ck_132_0 : (List.range' 0 41).all (chk 132) = true := by decide +kernel
set_option maxRecDepth 100000 in
theorem ck_133_0 : (List.range' 0 12).all (chk 133) = true := by decide +kernel
set_option maxRecDepth 100000 in
theorem ck_134_0 : (List.range' 0 12).all (chk 134) = true := by decide +kernel
set_option maxRecDepth 100000 in
theorem ck_135_0 : (List.range' 0 146).all (chk 135) = true := by decide +kernel
set_option maxRecDepth 100000 in
theorem ck_136_0 : (List.range' 0 18).all (chk 136) = true := by decide +kernel
set_option maxRecDepth 100000 in
theorem ck_137_0 : (List.range' 0 16).all (chk 137) = true := by decide +kernel
set_option maxRecDepth 100000 in
theorem ck_138_0 : (List.range' 0 18).all (chk 138) = true := by decide +kernel
set_option maxRecDepth 100000 in
theorem ck_139_0 : (List.range' 0 75).all (chk 139) = true := by decide +kernel
set_option maxRecDepth 100000 in
theorem ck_140_0 : (List.range' 0 18).all (chk 140) = true := by decide +kernel
set_option maxRecDepth 100000 in
theorem ck_141_0 : (List.range' 0 42).all (chk 141) = true := by decide +kernel
set_option maxRecDepth 100000 in
theorem ck_142_0 : (List.range' 0 126).all (chk 142) = true := by decide +kernel
set_option maxRecDepth 100000 in
theorem ck_143_0 : (List.range' 0 18).all (chk 143) = true := by decide +kernel
set_option maxRecDepth 100000 in
theorem ck_144_0 : (List.range' 0 42).all (chk 144) = true := by decide +kernel
set_option maxRecDepth 100000 in
theorem ck_145_0 : (List.range' 0 64).all (chk 145) = true := by decide +kernel
set_option maxRecDepth 100000 in
theorem ck_146_0 : (List.range' 0 12).all (chk 146) = true := by decide +kernel
set_option maxRecDepth 100000 in
theorem ck_147_0 : (List.range' 0 33).all (chk 147) = true := by decide +kernel
set_option maxRecDepth 100000 in
theorem ck_148_0 : (List.range' 0 12).all (chk 148) = true := by decide +kernel
set_option maxRecDepth 100000 in
theorem ck_149_0 : (List.range' 0 58).all (chk 149) = true := by decide +kernel
set_option maxRecDepth 100000 in
theorem ck_150_0 : (List.range' 0 41).all (chk 150) = true := by decide +kernel
set_option maxRecDepth 100000 in
theorem ck_151_0 : (List.range' 0 146).all (chk 151) = true := by decide +kernel
set_option maxRecDepth 100000 in
theorem ck_152_0 : (List.range' 0 20).all (chk 152) = true := by decide +kernel
set_option maxRecDepth 100000 in
theorem ck_153_0 : (List.range' 0 150).all (chk 153) = true := by decide +kernel
set_option maxRecDepth 100000 in
theorem ck_153_150 : (List.range' 150 136).all (chk 153) = true := by decide +kernel
set_option maxRecDepth 100000 in
theorem ck_154_0 : (List.range' 0 23).all (chk 154) = true := by decide +kernel
set_option maxRecDepth 100000 in
theorem ck_155_0 : (List.range' 0 18).all (chk 155) = true := by decide +kernel
set_option maxRecDepth 100000 in
theorem ck_156_0 : (List.range' 0 150).all (chk 156) = true := by decide +kernel
set_option maxRecDepth 100000 in
theorem ck_156_150 : (List.range' 150 110).all (chk 156) = true := by decide +kernel
set_option maxRecDepth 100000 in
theorem ck_157_0 : (List.range' 0 26).all (chk 157) = true := by decide +kernel
set_option maxRecDepth 100000 in
theorem ck_158_0 : (List.range' 0 38).all (chk 158) = true := by decide +kernel
set_option maxRecDepth 100000 in
theorem ck_159_0 : (List.range' 0 21).all (chk 159) = true := by decide +kernel
set_option maxRecDepth 100000 in
theorem ck_160_0 : (List.range' 0 141).all (chk 160) = true := by decide +kernel
set_option maxRecDepth 100000 in
theorem ck_161_0 : (List.range' 0 67).all (chk 161) = true := by decide +kernel
set_option maxRecDepth 100000 in
theorem ck_162_0 : (List.range' 0 22).all (chk 162) = true := by decide +kernel
set_option maxRecDepth 100000 in
theorem ck_163_0 : (List.range' 0 41).all (chk 163) = true := by decide +kernel
set_option maxRecDepth 100000 in
theorem ck_164_0 : (List.range' 0 10).all (chk 164) = true := by decide +kernel
set_option maxRecDepth 100000 in
theorem ck_165_0 : (List.range' 0 10).all (chk 165) = true := by decide +kernel
set_option maxRecDepth 100000 in
theorem ck_166_0 : (List.range' 0 85).all (chk 166) = true := by decide +kernel
set_option maxRecDepth 100000 in
theorem ck_167_0 : (List.range' 0 82).all (chk 167) = true := by decide +kernel
set_option maxRecDepth 100000 in
theorem ck_168_0 : (List.range' 0 23).all (chk 168) = true := by decide +kernel
set_option maxRecDepth 100000 in
theorem ck_169_0 : (List.range' 0 18).all (chk 169) = true := by decide +kernel
set_option maxRecDepth 100000 in
theorem ck_170_0 : (List.range' 0 53).all (chk 170) = true := by decide +kernel
set_option maxRecDepth 100000 in
theorem ck_171_0 : (List.range' 0 21).all (chk 171) = true := by decide +kernel
set_option maxRecDepth 100000 in
theorem ck_172_0 : (List.range' 0 47).all (chk 172) = true := by decide +kernel
set_option maxRecDepth 100000 in
theorem ck_173_0 : (List.range' 0 150).all (chk 173) = true := by decide +kernel
set_option maxRecDepth 100000 in
theorem ck_173_150 : (List.range' 150 150).all (chk 173) = true := by decide +kernel
set_option maxRecDepth 100000 in
theorem ck_173_300 : (List.range' 300 48).all (chk 173) = true := by decide +kernel
set_option maxRecDepth 100000 in
theorem ck_174_0 : (List.range' 0 22).all (chk 174) = true := by decide +kernel
set_option maxRecDepth 100000 in
theorem ck_175_0 : (List.range' 0 28).all (chk 175) = true := by decide +kernel
set_option maxRecDepth 100000 in
theorem ck_176_0 : (List.range' 0 24).all (chk 176) = true := by decide +kernel
set_option maxRecDepth 100000 in
theorem ck_177_0 : (List.range' 0 91).all (chk 177) = true := by decide +kernel
set_option maxRecDepth 100000 in
theorem ck_178_0 : (List.range' 0 19).all (chk 178) = true := by decide +kernel
set_option maxRecDepth 100000 in
theorem ck_179_0 : (List.range' 0 150).all (chk 179) = true := by decide +kernel
set_option maxRecDepth 100000 in
theorem ck_179_150 : (List.range' 150 131).all (chk 179) = true := by decide +kernel
set_option maxRecDepth 100000 in
theorem ck_180_0 : (List.range' 0 11).all (chk 180) = true := by decide +kernel
set_option maxRecDepth 100000 in
theorem ck_181_0 : (List.range' 0 150).all (chk 181) = true := by decide +kernel
set_option maxRecDepth 100000 in
theorem ck_181_150 : (List.range' 150 14).all (chk 181) = true := by decide +kernel
set_option maxRecDepth 100000 in
theorem ck_182_0 : (List.range' 0 48).all (chk 182) = true := by decide +kernel
set_option maxRecDepth 100000 in
theorem ck_183_0 : (List.range' 0 10).all (chk 183) = true := by decide +kernel
set_option maxRecDepth 100000 in
theorem ck_184_0 : (List.range' 0 41).all (chk 184) = true := by decide +kernel
set_option maxRecDepth 100000 in
theorem ck_185_0 : (List.range' 0 34).all (chk 185) = true := by decide +kernel
set_option maxRecDepth 100000 in
theorem ck_186_0 : (List.range' 0 83).all (chk 186) = true := by decide +kernel
set_option maxRecDepth 100000 in
theorem ck_187_0 : (List.range' 0 57).all (chk 187) = true := by decide +kernel
set_option maxRecDepth 100000 in
theorem ck_188_0 : (List.range' 0 39).all (chk 188) = true := by decide +kernel
set_option maxRecDepth 100000 in
theorem ck_189_0 : (List.range' 0 62).all (chk 189) = true := by decide +kernel
set_option maxRecDepth 100000 in
theorem ck_190_0 : (List.range' 0 89).all (chk 190) = true := by decide +kernel
set_option maxRecDepth 100000 in
theorem ck_191_0 : (List.range' 0 81).all (chk 191) = true := by decide +kernel
set_option maxRecDepth 100000 in
theorem ck_192_0 : (List.range' 0 29).all (chk 192) = true := by decide +kernel
set_option maxRecDepth 100000 in
theorem ck_193_0 : (List.range' 0 70).all (chk 193) = true := by decide +kernel
set_option maxRecDepth 100000 in
theorem ck_194_0 : (List.range' 0 48).all (chk 194) = true := by decide +kernel
set_option maxRecDepth 100000 in
theorem ck_195_0 : (List.range' 0 19).all (chk 195) = true := by decide +kernel
set_option maxRecDepth 100000 in
theorem ck_196_0 : (List.range' 0 58).all (chk 196) = true := by decide +kernel
set_option maxRecDepth 100000 in
theorem ck_197_0 : (List.range' 0 55).all (chk 197) = true := by decide +kernel
set_option maxRecDepth 100000 in
theorem ck_198_0 : (List.range' 0 89).all (chk 198) = true := by decide +kernel
set_option maxRecDepth 100000 in
theorem ck_199_0 : (List.range' 0 79).all (chk 199) = true := by decide +kernel
set_option maxRecDepth 100000 in
theorem ck_200_0 : (List.range' 0 116).all (chk 200) = true := by decide +kernel
set_option maxRecDepth 100000 in
theorem ck_201_0 : (List.range' 0 10).all (chk 201) = true := by decide +kernel
end
section
set_option maxRecDepth 100000 in
theorem ck_202_0 : (List.range' 0 150).all (chk 202) = true := by decide +kernel
set_option maxRecDepth 100000 in
theorem ck_202_150 : (List.range' 150 150).all (chk 202) = true := by decide +kernel
set_option maxRecDepth 100000 in
theorem ck_202_300 : (List.range' 300 150).all (chk 202) = true := by decide +kernel
set_option maxRecDepth 100000 in
theorem ck_202_450 : (List.range' 450 150).all (chk 202) = true := by decide +kernel
set_option maxRecDepth 100000 in
theorem ck_202_600 : (List.range' 600 150).all (chk 202) = true := by decide +kernel
set_option maxRecDepth 100000 in
theorem ck_202_750 : (List.range' 750 150).all (chk 202) = true := by decide +kernel
set_option maxRecDepth 100000 in
theorem ck_202_900 : (List.range' 900 150).all (chk 202) = true := by decide +kernel
set_option maxRecDepth 100000 in
theorem ck_202_1050 : (List.range' 1050 102).all (chk 202) = true := by decide +kernel
end
section
theorem cg_0 (pc : Nat) : chk 0 pc = true := by
  by_cases h : pc < 115
  · exact all_range 0 115 ck_0_0 pc (Nat.zero_le _) (by omega)
  · have e : Nat.ble 115 pc = true := Nat.ble_eq.mpr (by omega)
    have r : ri 0 pc = none := by
      show rc_0 pc = none
      unfold rc_0
      rw [e]
      rfl
    unfold chk
    rw [r]
theorem cg_1 (pc : Nat) : chk 1 pc = true := by
  by_cases h : pc < 19
  · exact all_range 0 19 ck_1_0 pc (Nat.zero_le _) (by omega)
  · have e : Nat.ble 19 pc = true := Nat.ble_eq.mpr (by omega)
    have r : ri 1 pc = none := by
      show rc_1 pc = none
      unfold rc_1
      rw [e]
      rfl
    unfold chk
    rw [r]
theorem cg_2 (pc : Nat) : chk 2 pc = true := by
  by_cases h : pc < 34
  · exact all_range 0 34 ck_2_0 pc (Nat.zero_le _) (by omega)
  · have e : Nat.ble 34 pc = true := Nat.ble_eq.mpr (by omega)
    have r : ri 2 pc = none := by
      show rc_2 pc = none
      unfold rc_2
      rw [e]
      rfl
    unfold chk
    rw [r]
theorem cg_3 (pc : Nat) : chk 3 pc = true := by
  by_cases h : pc < 37
  · exact all_range 0 37 ck_3_0 pc (Nat.zero_le _) (by omega)
  · have e : Nat.ble 37 pc = true := Nat.ble_eq.mpr (by omega)
    have r : ri 3 pc = none := by
      show rc_3 pc = none
      unfold rc_3
      rw [e]
      rfl
    unfold chk
    rw [r]
theorem cg_4 (pc : Nat) : chk 4 pc = true := by
  by_cases h : pc < 11
  · exact all_range 0 11 ck_4_0 pc (Nat.zero_le _) (by omega)
  · have e : Nat.ble 11 pc = true := Nat.ble_eq.mpr (by omega)
    have r : ri 4 pc = none := by
      show rc_4 pc = none
      unfold rc_4
      rw [e]
      rfl
    unfold chk
    rw [r]
theorem cg_5 (pc : Nat) : chk 5 pc = true := by
  by_cases h : pc < 26
  · exact all_range 0 26 ck_5_0 pc (Nat.zero_le _) (by omega)
  · have e : Nat.ble 26 pc = true := Nat.ble_eq.mpr (by omega)
    have r : ri 5 pc = none := by
      show rc_5 pc = none
      unfold rc_5
      rw [e]
      rfl
    unfold chk
    rw [r]
theorem cg_6 (pc : Nat) : chk 6 pc = true := by
  by_cases h : pc < 39
  · exact all_range 0 39 ck_6_0 pc (Nat.zero_le _) (by omega)
  · have e : Nat.ble 39 pc = true := Nat.ble_eq.mpr (by omega)
    have r : ri 6 pc = none := by
      show rc_6 pc = none
      unfold rc_6
      rw [e]
      rfl
    unfold chk
    rw [r]
theorem cg_7 (pc : Nat) : chk 7 pc = true := by
  by_cases h : pc < 68
  · exact all_range 0 68 ck_7_0 pc (Nat.zero_le _) (by omega)
  · have e : Nat.ble 68 pc = true := Nat.ble_eq.mpr (by omega)
    have r : ri 7 pc = none := by
      show rc_7 pc = none
      unfold rc_7
      rw [e]
      rfl
    unfold chk
    rw [r]
theorem cg_8 (pc : Nat) : chk 8 pc = true := by
  by_cases h : pc < 39
  · exact all_range 0 39 ck_8_0 pc (Nat.zero_le _) (by omega)
  · have e : Nat.ble 39 pc = true := Nat.ble_eq.mpr (by omega)
    have r : ri 8 pc = none := by
      show rc_8 pc = none
      unfold rc_8
      rw [e]
      rfl
    unfold chk
    rw [r]
theorem cg_9 (pc : Nat) : chk 9 pc = true := by
  by_cases h : pc < 81
  · exact all_range 0 81 ck_9_0 pc (Nat.zero_le _) (by omega)
  · have e : Nat.ble 81 pc = true := Nat.ble_eq.mpr (by omega)
    have r : ri 9 pc = none := by
      show rc_9 pc = none
      unfold rc_9
      rw [e]
      rfl
    unfold chk
    rw [r]
theorem cg_10 (pc : Nat) : chk 10 pc = true := by
  by_cases h : pc < 26
  · exact all_range 0 26 ck_10_0 pc (Nat.zero_le _) (by omega)
  · have e : Nat.ble 26 pc = true := Nat.ble_eq.mpr (by omega)
    have r : ri 10 pc = none := by
      show rc_10 pc = none
      unfold rc_10
      rw [e]
      rfl
    unfold chk
    rw [r]
theorem cg_11 (pc : Nat) : chk 11 pc = true := by
  by_cases h : pc < 36
  · exact all_range 0 36 ck_11_0 pc (Nat.zero_le _) (by omega)
  · have e : Nat.ble 36 pc = true := Nat.ble_eq.mpr (by omega)
    have r : ri 11 pc = none := by
      show rc_11 pc = none
      unfold rc_11
      rw [e]
      rfl
    unfold chk
    rw [r]
theorem cg_12 (pc : Nat) : chk 12 pc = true := by
  by_cases h : pc < 7
  · exact all_range 0 7 ck_12_0 pc (Nat.zero_le _) (by omega)
  · have e : Nat.ble 7 pc = true := Nat.ble_eq.mpr (by omega)
    have r : ri 12 pc = none := by
      show rc_12 pc = none
      unfold rc_12
      rw [e]
      rfl
    unfold chk
    rw [r]
theorem cg_13 (pc : Nat) : chk 13 pc = true := by
  by_cases h : pc < 7
  · exact all_range 0 7 ck_13_0 pc (Nat.zero_le _) (by omega)
  · have e : Nat.ble 7 pc = true := Nat.ble_eq.mpr (by omega)
    have r : ri 13 pc = none := by
      show rc_13 pc = none
      unfold rc_13
      rw [e]
      rfl
    unfold chk
    rw [r]
theorem cg_14 (pc : Nat) : chk 14 pc = true := by
  by_cases h : pc < 64
  · exact all_range 0 64 ck_14_0 pc (Nat.zero_le _) (by omega)
  · have e : Nat.ble 64 pc = true := Nat.ble_eq.mpr (by omega)
    have r : ri 14 pc = none := by
      show rc_14 pc = none
      unfold rc_14
      rw [e]
      rfl
    unfold chk
    rw [r]
theorem cg_15 (pc : Nat) : chk 15 pc = true := by
  by_cases h : pc < 18
  · exact all_range 0 18 ck_15_0 pc (Nat.zero_le _) (by omega)
  · have e : Nat.ble 18 pc = true := Nat.ble_eq.mpr (by omega)
    have r : ri 15 pc = none := by
      show rc_15 pc = none
      unfold rc_15
      rw [e]
      rfl
    unfold chk
    rw [r]
theorem cg_16 (pc : Nat) : chk 16 pc = true := by
  by_cases h : pc < 45
  · exact all_range 0 45 ck_16_0 pc (Nat.zero_le _) (by omega)
  · have e : Nat.ble 45 pc = true := Nat.ble_eq.mpr (by omega)
    have r : ri 16 pc = none := by
      show rc_16 pc = none
      unfold rc_16
      rw [e]
      rfl
    unfold chk
    rw [r]
theorem cg_17 (pc : Nat) : chk 17 pc = true := by
  by_cases h : pc < 91
  · exact all_range 0 91 ck_17_0 pc (Nat.zero_le _) (by omega)
  · have e : Nat.ble 91 pc = true := Nat.ble_eq.mpr (by omega)
    have r : ri 17 pc = none := by
      show rc_17 pc = none
      unfold rc_17
      rw [e]
      rfl
    unfold chk
    rw [r]
theorem cg_18 (pc : Nat) : chk 18 pc = true := by
  by_cases h : pc < 18
  · exact all_range 0 18 ck_18_0 pc (Nat.zero_le _) (by omega)
  · have e : Nat.ble 18 pc = true := Nat.ble_eq.mpr (by omega)
    have r : ri 18 pc = none := by
      show rc_18 pc = none
      unfold rc_18
      rw [e]
      rfl
    unfold chk
    rw [r]
theorem cg_19 (pc : Nat) : chk 19 pc = true := by
  by_cases h : pc < 18
  · exact all_range 0 18 ck_19_0 pc (Nat.zero_le _) (by omega)
  · have e : Nat.ble 18 pc = true := Nat.ble_eq.mpr (by omega)
    have r : ri 19 pc = none := by
      show rc_19 pc = none
      unfold rc_19
      rw [e]
      rfl
    unfold chk
    rw [r]
theorem cg_20 (pc : Nat) : chk 20 pc = true := by
  by_cases h : pc < 15
  · exact all_range 0 15 ck_20_0 pc (Nat.zero_le _) (by omega)
  · have e : Nat.ble 15 pc = true := Nat.ble_eq.mpr (by omega)
    have r : ri 20 pc = none := by
      show rc_20 pc = none
      unfold rc_20
      rw [e]
      rfl
    unfold chk
    rw [r]
theorem cg_21 (pc : Nat) : chk 21 pc = true := by
  by_cases h : pc < 40
  · exact all_range 0 40 ck_21_0 pc (Nat.zero_le _) (by omega)
  · have e : Nat.ble 40 pc = true := Nat.ble_eq.mpr (by omega)
    have r : ri 21 pc = none := by
      show rc_21 pc = none
      unfold rc_21
      rw [e]
      rfl
    unfold chk
    rw [r]
theorem cg_22 (pc : Nat) : chk 22 pc = true := by
  by_cases h : pc < 41
  · exact all_range 0 41 ck_22_0 pc (Nat.zero_le _) (by omega)
  · have e : Nat.ble 41 pc = true := Nat.ble_eq.mpr (by omega)
    have r : ri 22 pc = none := by
      show rc_22 pc = none
      unfold rc_22
      rw [e]
      rfl
    unfold chk
    rw [r]
theorem cg_23 (pc : Nat) : chk 23 pc = true := by
  by_cases h : pc < 68
  · exact all_range 0 68 ck_23_0 pc (Nat.zero_le _) (by omega)
  · have e : Nat.ble 68 pc = true := Nat.ble_eq.mpr (by omega)
    have r : ri 23 pc = none := by
      show rc_23 pc = none
      unfold rc_23
      rw [e]
      rfl
    unfold chk
    rw [r]
theorem cg_24 (pc : Nat) : chk 24 pc = true := by
  by_cases h : pc < 27
  · exact all_range 0 27 ck_24_0 pc (Nat.zero_le _) (by omega)
  · have e : Nat.ble 27 pc = true := Nat.ble_eq.mpr (by omega)
    have r : ri 24 pc = none := by
      show rc_24 pc = none
      unfold rc_24
      rw [e]
      rfl
    unfold chk
    rw [r]
theorem cg_25 (pc : Nat) : chk 25 pc = true := by
  by_cases h : pc < 47
  · exact all_range 0 47 ck_25_0 pc (Nat.zero_le _) (by omega)
  · have e : Nat.ble 47 pc = true := Nat.ble_eq.mpr (by omega)
    have r : ri 25 pc = none := by
      show rc_25 pc = none
      unfold rc_25
      rw [e]
      rfl
    unfold chk
    rw [r]
theorem cg_26 (pc : Nat) : chk 26 pc = true := by
  by_cases h : pc < 47
  · exact all_range 0 47 ck_26_0 pc (Nat.zero_le _) (by omega)
  · have e : Nat.ble 47 pc = true := Nat.ble_eq.mpr (by omega)
    have r : ri 26 pc = none := by
      show rc_26 pc = none
      unfold rc_26
      rw [e]
      rfl
    unfold chk
    rw [r]
theorem cg_27 (pc : Nat) : chk 27 pc = true := by
  by_cases h : pc < 38
  · exact all_range 0 38 ck_27_0 pc (Nat.zero_le _) (by omega)
  · have e : Nat.ble 38 pc = true := Nat.ble_eq.mpr (by omega)
    have r : ri 27 pc = none := by
      show rc_27 pc = none
      unfold rc_27
      rw [e]
      rfl
    unfold chk
    rw [r]
theorem cg_28 (pc : Nat) : chk 28 pc = true := by
  by_cases h : pc < 79
  · exact all_range 0 79 ck_28_0 pc (Nat.zero_le _) (by omega)
  · have e : Nat.ble 79 pc = true := Nat.ble_eq.mpr (by omega)
    have r : ri 28 pc = none := by
      show rc_28 pc = none
      unfold rc_28
      rw [e]
      rfl
    unfold chk
    rw [r]
theorem cg_29 (pc : Nat) : chk 29 pc = true := by
  by_cases h : pc < 21
  · exact all_range 0 21 ck_29_0 pc (Nat.zero_le _) (by omega)
  · have e : Nat.ble 21 pc = true := Nat.ble_eq.mpr (by omega)
    have r : ri 29 pc = none := by
      show rc_29 pc = none
      unfold rc_29
      rw [e]
      rfl
    unfold chk
    rw [r]
theorem cg_30 (pc : Nat) : chk 30 pc = true := by
  by_cases h : pc < 30
  · exact all_range 0 30 ck_30_0 pc (Nat.zero_le _) (by omega)
  · have e : Nat.ble 30 pc = true := Nat.ble_eq.mpr (by omega)
    have r : ri 30 pc = none := by
      show rc_30 pc = none
      unfold rc_30
      rw [e]
      rfl
    unfold chk
    rw [r]
theorem cg_31 (pc : Nat) : chk 31 pc = true := by
  by_cases h : pc < 6
  · exact all_range 0 6 ck_31_0 pc (Nat.zero_le _) (by omega)
  · have e : Nat.ble 6 pc = true := Nat.ble_eq.mpr (by omega)
    have r : ri 31 pc = none := by
      show rc_31 pc = none
      unfold rc_31
      rw [e]
      rfl
    unfold chk
    rw [r]
theorem cg_32 (pc : Nat) : chk 32 pc = true := by
  by_cases h : pc < 85
  · exact all_range 0 85 ck_32_0 pc (Nat.zero_le _) (by omega)
  · have e : Nat.ble 85 pc = true := Nat.ble_eq.mpr (by omega)
    have r : ri 32 pc = none := by
      show rc_32 pc = none
      unfold rc_32
      rw [e]
      rfl
    unfold chk
    rw [r]
theorem cg_33 (pc : Nat) : chk 33 pc = true := by
  by_cases h : pc < 21
  · exact all_range 0 21 ck_33_0 pc (Nat.zero_le _) (by omega)
  · have e : Nat.ble 21 pc = true := Nat.ble_eq.mpr (by omega)
    have r : ri 33 pc = none := by
      show rc_33 pc = none
      unfold rc_33
      rw [e]
      rfl
    unfold chk
    rw [r]
theorem cg_34 (pc : Nat) : chk 34 pc = true := by
  by_cases h : pc < 15
  · exact all_range 0 15 ck_34_0 pc (Nat.zero_le _) (by omega)
  · have e : Nat.ble 15 pc = true := Nat.ble_eq.mpr (by omega)
    have r : ri 34 pc = none := by
      show rc_34 pc = none
      unfold rc_34
      rw [e]
      rfl
    unfold chk
    rw [r]
theorem cg_35 (pc : Nat) : chk 35 pc = true := by
  by_cases h : pc < 16
  · exact all_range 0 16 ck_35_0 pc (Nat.zero_le _) (by omega)
  · have e : Nat.ble 16 pc = true := Nat.ble_eq.mpr (by omega)
    have r : ri 35 pc = none := by
      show rc_35 pc = none
      unfold rc_35
      rw [e]
      rfl
    unfold chk
    rw [r]
theorem cg_36 (pc : Nat) : chk 36 pc = true := by
  by_cases h : pc < 87
  · exact all_range 0 87 ck_36_0 pc (Nat.zero_le _) (by omega)
  · have e : Nat.ble 87 pc = true := Nat.ble_eq.mpr (by omega)
    have r : ri 36 pc = none := by
      show rc_36 pc = none
      unfold rc_36
      rw [e]
      rfl
    unfold chk
    rw [r]
theorem cg_37 (pc : Nat) : chk 37 pc = true := by
  by_cases h : pc < 42
  · exact all_range 0 42 ck_37_0 pc (Nat.zero_le _) (by omega)
  · have e : Nat.ble 42 pc = true := Nat.ble_eq.mpr (by omega)
    have r : ri 37 pc = none := by
      show rc_37 pc = none
      unfold rc_37
      rw [e]
      rfl
    unfold chk
    rw [r]
theorem cg_38 (pc : Nat) : chk 38 pc = true := by
  by_cases h : pc < 19
  · exact all_range 0 19 ck_38_0 pc (Nat.zero_le _) (by omega)
  · have e : Nat.ble 19 pc = true := Nat.ble_eq.mpr (by omega)
    have r : ri 38 pc = none := by
      show rc_38 pc = none
      unfold rc_38
      rw [e]
      rfl
    unfold chk
    rw [r]
theorem cg_39 (pc : Nat) : chk 39 pc = true := by
  by_cases h : pc < 47
  · exact all_range 0 47 ck_39_0 pc (Nat.zero_le _) (by omega)
  · have e : Nat.ble 47 pc = true := Nat.ble_eq.mpr (by omega)
    have r : ri 39 pc = none := by
      show rc_39 pc = none
      unfold rc_39
      rw [e]
      rfl
    unfold chk
    rw [r]
theorem cg_40 (pc : Nat) : chk 40 pc = true := by
  by_cases h : pc < 83
  · exact all_range 0 83 ck_40_0 pc (Nat.zero_le _) (by omega)
  · have e : Nat.ble 83 pc = true := Nat.ble_eq.mpr (by omega)
    have r : ri 40 pc = none := by
      show rc_40 pc = none
      unfold rc_40
      rw [e]
      rfl
    unfold chk
    rw [r]
theorem cg_41 (pc : Nat) : chk 41 pc = true := by
  by_cases h : pc < 187
  · by_cases h0 : pc < 150
    · exact all_range 0 150 ck_41_0 pc (by omega) (by omega)
    exact all_range 150 37 ck_41_150 pc (by omega) (by omega)
  · have e : Nat.ble 187 pc = true := Nat.ble_eq.mpr (by omega)
    have r : ri 41 pc = none := by
      show rc_41 pc = none
      unfold rc_41
      rw [e]
      rfl
    unfold chk
    rw [r]
theorem cg_42 (pc : Nat) : chk 42 pc = true := by
  by_cases h : pc < 185
  · by_cases h0 : pc < 150
    · exact all_range 0 150 ck_42_0 pc (by omega) (by omega)
    exact all_range 150 35 ck_42_150 pc (by omega) (by omega)
  · have e : Nat.ble 185 pc = true := Nat.ble_eq.mpr (by omega)
    have r : ri 42 pc = none := by
      show rc_42 pc = none
      unfold rc_42
      rw [e]
      rfl
    unfold chk
    rw [r]
theorem cg_43 (pc : Nat) : chk 43 pc = true := by
  by_cases h : pc < 67
  · exact all_range 0 67 ck_43_0 pc (Nat.zero_le _) (by omega)
  · have e : Nat.ble 67 pc = true := Nat.ble_eq.mpr (by omega)
    have r : ri 43 pc = none := by
      show rc_43 pc = none
      unfold rc_43
      rw [e]
      rfl
    unfold chk
    rw [r]
theorem cg_44 (pc : Nat) : chk 44 pc = true := by
  by_cases h : pc < 11
  · exact all_range 0 11 ck_44_0 pc (Nat.zero_le _) (by omega)
  · have e : Nat.ble 11 pc = true := Nat.ble_eq.mpr (by omega)
    have r : ri 44 pc = none := by
      show rc_44 pc = none
      unfold rc_44
      rw [e]
      rfl
    unfold chk
    rw [r]
theorem cg_45 (pc : Nat) : chk 45 pc = true := by
  by_cases h : pc < 15
  · exact all_range 0 15 ck_45_0 pc (Nat.zero_le _) (by omega)
  · have e : Nat.ble 15 pc = true := Nat.ble_eq.mpr (by omega)
    have r : ri 45 pc = none := by
      show rc_45 pc = none
      unfold rc_45
      rw [e]
      rfl
    unfold chk
    rw [r]
theorem cg_46 (pc : Nat) : chk 46 pc = true := by
  by_cases h : pc < 25
  · exact all_range 0 25 ck_46_0 pc (Nat.zero_le _) (by omega)
  · have e : Nat.ble 25 pc = true := Nat.ble_eq.mpr (by omega)
    have r : ri 46 pc = none := by
      show rc_46 pc = none
      unfold rc_46
      rw [e]
      rfl
    unfold chk
    rw [r]
theorem cg_47 (pc : Nat) : chk 47 pc = true := by
  by_cases h : pc < 19
  · exact all_range 0 19 ck_47_0 pc (Nat.zero_le _) (by omega)
  · have e : Nat.ble 19 pc = true := Nat.ble_eq.mpr (by omega)
    have r : ri 47 pc = none := by
      show rc_47 pc = none
      unfold rc_47
      rw [e]
      rfl
    unfold chk
    rw [r]
theorem cg_48 (pc : Nat) : chk 48 pc = true := by
  by_cases h : pc < 15
  · exact all_range 0 15 ck_48_0 pc (Nat.zero_le _) (by omega)
  · have e : Nat.ble 15 pc = true := Nat.ble_eq.mpr (by omega)
    have r : ri 48 pc = none := by
      show rc_48 pc = none
      unfold rc_48
      rw [e]
      rfl
    unfold chk
    rw [r]
theorem cg_49 (pc : Nat) : chk 49 pc = true := by
  by_cases h : pc < 10
  · exact all_range 0 10 ck_49_0 pc (Nat.zero_le _) (by omega)
  · have e : Nat.ble 10 pc = true := Nat.ble_eq.mpr (by omega)
    have r : ri 49 pc = none := by
      show rc_49 pc = none
      unfold rc_49
      rw [e]
      rfl
    unfold chk
    rw [r]
theorem cg_50 (pc : Nat) : chk 50 pc = true := by
  by_cases h : pc < 18
  · exact all_range 0 18 ck_50_0 pc (Nat.zero_le _) (by omega)
  · have e : Nat.ble 18 pc = true := Nat.ble_eq.mpr (by omega)
    have r : ri 50 pc = none := by
      show rc_50 pc = none
      unfold rc_50
      rw [e]
      rfl
    unfold chk
    rw [r]
theorem cg_51 (pc : Nat) : chk 51 pc = true := by
  by_cases h : pc < 15
  · exact all_range 0 15 ck_51_0 pc (Nat.zero_le _) (by omega)
  · have e : Nat.ble 15 pc = true := Nat.ble_eq.mpr (by omega)
    have r : ri 51 pc = none := by
      show rc_51 pc = none
      unfold rc_51
      rw [e]
      rfl
    unfold chk
    rw [r]
theorem cg_52 (pc : Nat) : chk 52 pc = true := by
  by_cases h : pc < 19
  · exact all_range 0 19 ck_52_0 pc (Nat.zero_le _) (by omega)
  · have e : Nat.ble 19 pc = true := Nat.ble_eq.mpr (by omega)
    have r : ri 52 pc = none := by
      show rc_52 pc = none
      unfold rc_52
      rw [e]
      rfl
    unfold chk
    rw [r]
theorem cg_53 (pc : Nat) : chk 53 pc = true := by
  by_cases h : pc < 51
  · exact all_range 0 51 ck_53_0 pc (Nat.zero_le _) (by omega)
  · have e : Nat.ble 51 pc = true := Nat.ble_eq.mpr (by omega)
    have r : ri 53 pc = none := by
      show rc_53 pc = none
      unfold rc_53
      rw [e]
      rfl
    unfold chk
    rw [r]
theorem cg_54 (pc : Nat) : chk 54 pc = true := by
  by_cases h : pc < 125
  · exact all_range 0 125 ck_54_0 pc (Nat.zero_le _) (by omega)
  · have e : Nat.ble 125 pc = true := Nat.ble_eq.mpr (by omega)
    have r : ri 54 pc = none := by
      show rc_54 pc = none
      unfold rc_54
      rw [e]
      rfl
    unfold chk
    rw [r]
theorem cg_55 (pc : Nat) : chk 55 pc = true := by
  by_cases h : pc < 40
  · exact all_range 0 40 ck_55_0 pc (Nat.zero_le _) (by omega)
  · have e : Nat.ble 40 pc = true := Nat.ble_eq.mpr (by omega)
    have r : ri 55 pc = none := by
      show rc_55 pc = none
      unfold rc_55
      rw [e]
      rfl
    unfold chk
    rw [r]
theorem cg_56 (pc : Nat) : chk 56 pc = true := by
  by_cases h : pc < 59
  · exact all_range 0 59 ck_56_0 pc (Nat.zero_le _) (by omega)
  · have e : Nat.ble 59 pc = true := Nat.ble_eq.mpr (by omega)
    have r : ri 56 pc = none := by
      show rc_56 pc = none
      unfold rc_56
      rw [e]
      rfl
    unfold chk
    rw [r]
theorem cg_57 (pc : Nat) : chk 57 pc = true := by
  by_cases h : pc < 53
  · exact all_range 0 53 ck_57_0 pc (Nat.zero_le _) (by omega)
  · have e : Nat.ble 53 pc = true := Nat.ble_eq.mpr (by omega)
    have r : ri 57 pc = none := by
      show rc_57 pc = none
      unfold rc_57
      rw [e]
      rfl
    unfold chk
    rw [r]
theorem cg_58 (pc : Nat) : chk 58 pc = true := by
  by_cases h : pc < 171
  · by_cases h0 : pc < 150
    · exact all_range 0 150 ck_58_0 pc (by omega) (by omega)
    exact all_range 150 21 ck_58_150 pc (by omega) (by omega)
  · have e : Nat.ble 171 pc = true := Nat.ble_eq.mpr (by omega)
    have r : ri 58 pc = none := by
      show rc_58 pc = none
      unfold rc_58
      rw [e]
      rfl
    unfold chk
    rw [r]
theorem cg_59 (pc : Nat) : chk 59 pc = true := by
  by_cases h : pc < 50
  · exact all_range 0 50 ck_59_0 pc (Nat.zero_le _) (by omega)
  · have e : Nat.ble 50 pc = true := Nat.ble_eq.mpr (by omega)
    have r : ri 59 pc = none := by
      show rc_59 pc = none
      unfold rc_59
      rw [e]
      rfl
    unfold chk
    rw [r]
theorem cg_60 (pc : Nat) : chk 60 pc = true := by
  by_cases h : pc < 8
  · exact all_range 0 8 ck_60_0 pc (Nat.zero_le _) (by omega)
  · have e : Nat.ble 8 pc = true := Nat.ble_eq.mpr (by omega)
    have r : ri 60 pc = none := by
      show rc_60 pc = none
      unfold rc_60
      rw [e]
      rfl
    unfold chk
    rw [r]
theorem cg_61 (pc : Nat) : chk 61 pc = true := by
  by_cases h : pc < 20
  · exact all_range 0 20 ck_61_0 pc (Nat.zero_le _) (by omega)
  · have e : Nat.ble 20 pc = true := Nat.ble_eq.mpr (by omega)
    have r : ri 61 pc = none := by
      show rc_61 pc = none
      unfold rc_61
      rw [e]
      rfl
    unfold chk
    rw [r]
theorem cg_62 (pc : Nat) : chk 62 pc = true := by
  by_cases h : pc < 10
  · exact all_range 0 10 ck_62_0 pc (Nat.zero_le _) (by omega)
  · have e : Nat.ble 10 pc = true := Nat.ble_eq.mpr (by omega)
    have r : ri 62 pc = none := by
      show rc_62 pc = none
      unfold rc_62
      rw [e]
      rfl
    unfold chk
    rw [r]
theorem cg_63 (pc : Nat) : chk 63 pc = true := by
  by_cases h : pc < 45
  · exact all_range 0 45 ck_63_0 pc (Nat.zero_le _) (by omega)
  · have e : Nat.ble 45 pc = true := Nat.ble_eq.mpr (by omega)
    have r : ri 63 pc = none := by
      show rc_63 pc = none
      unfold rc_63
      rw [e]
      rfl
    unfold chk
    rw [r]
theorem cg_64 (pc : Nat) : chk 64 pc = true := by
  by_cases h : pc < 10
  · exact all_range 0 10 ck_64_0 pc (Nat.zero_le _) (by omega)
  · have e : Nat.ble 10 pc = true := Nat.ble_eq.mpr (by omega)
    have r : ri 64 pc = none := by
      show rc_64 pc = none
      unfold rc_64
      rw [e]
      rfl
    unfold chk
    rw [r]
theorem cg_65 (pc : Nat) : chk 65 pc = true := by
  by_cases h : pc < 44
  · exact all_range 0 44 ck_65_0 pc (Nat.zero_le _) (by omega)
  · have e : Nat.ble 44 pc = true := Nat.ble_eq.mpr (by omega)
    have r : ri 65 pc = none := by
      show rc_65 pc = none
      unfold rc_65
      rw [e]
      rfl
    unfold chk
    rw [r]
theorem cg_66 (pc : Nat) : chk 66 pc = true := by
  by_cases h : pc < 76
  · exact all_range 0 76 ck_66_0 pc (Nat.zero_le _) (by omega)
  · have e : Nat.ble 76 pc = true := Nat.ble_eq.mpr (by omega)
    have r : ri 66 pc = none := by
      show rc_66 pc = none
      unfold rc_66
      rw [e]
      rfl
    unfold chk
    rw [r]
theorem cg_67 (pc : Nat) : chk 67 pc = true := by
  by_cases h : pc < 21
  · exact all_range 0 21 ck_67_0 pc (Nat.zero_le _) (by omega)
  · have e : Nat.ble 21 pc = true := Nat.ble_eq.mpr (by omega)
    have r : ri 67 pc = none := by
      show rc_67 pc = none
      unfold rc_67
      rw [e]
      rfl
    unfold chk
    rw [r]
theorem cg_68 (pc : Nat) : chk 68 pc = true := by
  by_cases h : pc < 47
  · exact all_range 0 47 ck_68_0 pc (Nat.zero_le _) (by omega)
  · have e : Nat.ble 47 pc = true := Nat.ble_eq.mpr (by omega)
    have r : ri 68 pc = none := by
      show rc_68 pc = none
      unfold rc_68
      rw [e]
      rfl
    unfold chk
    rw [r]
theorem cg_69 (pc : Nat) : chk 69 pc = true := by
  by_cases h : pc < 24
  · exact all_range 0 24 ck_69_0 pc (Nat.zero_le _) (by omega)
  · have e : Nat.ble 24 pc = true := Nat.ble_eq.mpr (by omega)
    have r : ri 69 pc = none := by
      show rc_69 pc = none
      unfold rc_69
      rw [e]
      rfl
    unfold chk
    rw [r]
theorem cg_70 (pc : Nat) : chk 70 pc = true := by
  by_cases h : pc < 15
  · exact all_range 0 15 ck_70_0 pc (Nat.zero_le _) (by omega)
  · have e : Nat.ble 15 pc = true := Nat.ble_eq.mpr (by omega)
    have r : ri 70 pc = none := by
      show rc_70 pc = none
      unfold rc_70
      rw [e]
      rfl
    unfold chk
    rw [r]
theorem cg_71 (pc : Nat) : chk 71 pc = true := by
  by_cases h : pc < 13
  · exact all_range 0 13 ck_71_0 pc (Nat.zero_le _) (by omega)
  · have e : Nat.ble 13 pc = true := Nat.ble_eq.mpr (by omega)
    have r : ri 71 pc = none := by
      show rc_71 pc = none
      unfold rc_71
      rw [e]
      rfl
    unfold chk
    rw [r]
theorem cg_72 (pc : Nat) : chk 72 pc = true := by
  by_cases h : pc < 45
  · exact all_range 0 45 ck_72_0 pc (Nat.zero_le _) (by omega)
  · have e : Nat.ble 45 pc = true := Nat.ble_eq.mpr (by omega)
    have r : ri 72 pc = none := by
      show rc_72 pc = none
      unfold rc_72
      rw [e]
      rfl
    unfold chk
    rw [r]
theorem cg_73 (pc : Nat) : chk 73 pc = true := by
  by_cases h : pc < 19
  · exact all_range 0 19 ck_73_0 pc (Nat.zero_le _) (by omega)
  · have e : Nat.ble 19 pc = true := Nat.ble_eq.mpr (by omega)
    have r : ri 73 pc = none := by
      show rc_73 pc = none
      unfold rc_73
      rw [e]
      rfl
    unfold chk
    rw [r]
theorem cg_74 (pc : Nat) : chk 74 pc = true := by
  by_cases h : pc < 58
  · exact all_range 0 58 ck_74_0 pc (Nat.zero_le _) (by omega)
  · have e : Nat.ble 58 pc = true := Nat.ble_eq.mpr (by omega)
    have r : ri 74 pc = none := by
      show rc_74 pc = none
      unfold rc_74
      rw [e]
      rfl
    unfold chk
    rw [r]
theorem cg_75 (pc : Nat) : chk 75 pc = true := by
  by_cases h : pc < 38
  · exact all_range 0 38 ck_75_0 pc (Nat.zero_le _) (by omega)
  · have e : Nat.ble 38 pc = true := Nat.ble_eq.mpr (by omega)
    have r : ri 75 pc = none := by
      show rc_75 pc = none
      unfold rc_75
      rw [e]
      rfl
    unfold chk
    rw [r]
theorem cg_76 (pc : Nat) : chk 76 pc = true := by
  by_cases h : pc < 40
  · exact all_range 0 40 ck_76_0 pc (Nat.zero_le _) (by omega)
  · have e : Nat.ble 40 pc = true := Nat.ble_eq.mpr (by omega)
    have r : ri 76 pc = none := by
      show rc_76 pc = none
      unfold rc_76
      rw [e]
      rfl
    unfold chk
    rw [r]
theorem cg_77 (pc : Nat) : chk 77 pc = true := by
  by_cases h : pc < 95
  · exact all_range 0 95 ck_77_0 pc (Nat.zero_le _) (by omega)
  · have e : Nat.ble 95 pc = true := Nat.ble_eq.mpr (by omega)
    have r : ri 77 pc = none := by
      show rc_77 pc = none
      unfold rc_77
      rw [e]
      rfl
    unfold chk
    rw [r]
theorem cg_78 (pc : Nat) : chk 78 pc = true := by
  by_cases h : pc < 56
  · exact all_range 0 56 ck_78_0 pc (Nat.zero_le _) (by omega)
  · have e : Nat.ble 56 pc = true := Nat.ble_eq.mpr (by omega)
    have r : ri 78 pc = none := by
      show rc_78 pc = none
      unfold rc_78
      rw [e]
      rfl
    unfold chk
    rw [r]
theorem cg_79 (pc : Nat) : chk 79 pc = true := by
  by_cases h : pc < 57
  · exact all_range 0 57 ck_79_0 pc (Nat.zero_le _) (by omega)
  · have e : Nat.ble 57 pc = true := Nat.ble_eq.mpr (by omega)
    have r : ri 79 pc = none := by
      show rc_79 pc = none
      unfold rc_79
      rw [e]
      rfl
    unfold chk
    rw [r]
theorem cg_80 (pc : Nat) : chk 80 pc = true := by
  by_cases h : pc < 11
  · exact all_range 0 11 ck_80_0 pc (Nat.zero_le _) (by omega)
  · have e : Nat.ble 11 pc = true := Nat.ble_eq.mpr (by omega)
    have r : ri 80 pc = none := by
      show rc_80 pc = none
      unfold rc_80
      rw [e]
      rfl
    unfold chk
    rw [r]
theorem cg_81 (pc : Nat) : chk 81 pc = true := by
  by_cases h : pc < 66
  · exact all_range 0 66 ck_81_0 pc (Nat.zero_le _) (by omega)
  · have e : Nat.ble 66 pc = true := Nat.ble_eq.mpr (by omega)
    have r : ri 81 pc = none := by
      show rc_81 pc = none
      unfold rc_81
      rw [e]
      rfl
    unfold chk
    rw [r]
theorem cg_82 (pc : Nat) : chk 82 pc = true := by
  by_cases h : pc < 53
  · exact all_range 0 53 ck_82_0 pc (Nat.zero_le _) (by omega)
  · have e : Nat.ble 53 pc = true := Nat.ble_eq.mpr (by omega)
    have r : ri 82 pc = none := by
      show rc_82 pc = none
      unfold rc_82
      rw [e]
      rfl
    unfold chk
    rw [r]
theorem cg_83 (pc : Nat) : chk 83 pc = true := by
  by_cases h : pc < 39
  · exact all_range 0 39 ck_83_0 pc (Nat.zero_le _) (by omega)
  · have e : Nat.ble 39 pc = true := Nat.ble_eq.mpr (by omega)
    have r : ri 83 pc = none := by
      show rc_83 pc = none
      unfold rc_83
      rw [e]
      rfl
    unfold chk
    rw [r]
theorem cg_84 (pc : Nat) : chk 84 pc = true := by
  by_cases h : pc < 57
  · exact all_range 0 57 ck_84_0 pc (Nat.zero_le _) (by omega)
  · have e : Nat.ble 57 pc = true := Nat.ble_eq.mpr (by omega)
    have r : ri 84 pc = none := by
      show rc_84 pc = none
      unfold rc_84
      rw [e]
      rfl
    unfold chk
    rw [r]
theorem cg_85 (pc : Nat) : chk 85 pc = true := by
  by_cases h : pc < 9
  · exact all_range 0 9 ck_85_0 pc (Nat.zero_le _) (by omega)
  · have e : Nat.ble 9 pc = true := Nat.ble_eq.mpr (by omega)
    have r : ri 85 pc = none := by
      show rc_85 pc = none
      unfold rc_85
      rw [e]
      rfl
    unfold chk
    rw [r]
theorem cg_86 (pc : Nat) : chk 86 pc = true := by
  by_cases h : pc < 23
  · exact all_range 0 23 ck_86_0 pc (Nat.zero_le _) (by omega)
  · have e : Nat.ble 23 pc = true := Nat.ble_eq.mpr (by omega)
    have r : ri 86 pc = none := by
      show rc_86 pc = none
      unfold rc_86
      rw [e]
      rfl
    unfold chk
    rw [r]
theorem cg_87 (pc : Nat) : chk 87 pc = true := by
  by_cases h : pc < 37
  · exact all_range 0 37 ck_87_0 pc (Nat.zero_le _) (by omega)
  · have e : Nat.ble 37 pc = true := Nat.ble_eq.mpr (by omega)
    have r : ri 87 pc = none := by
      show rc_87 pc = none
      unfold rc_87
      rw [e]
      rfl
    unfold chk
    rw [r]
theorem cg_88 (pc : Nat) : chk 88 pc = true := by
  by_cases h : pc < 44
  · exact all_range 0 44 ck_88_0 pc (Nat.zero_le _) (by omega)
  · have e : Nat.ble 44 pc = true := Nat.ble_eq.mpr (by omega)
    have r : ri 88 pc = none := by
      show rc_88 pc = none
      unfold rc_88
      rw [e]
      rfl
    unfold chk
    rw [r]
theorem cg_89 (pc : Nat) : chk 89 pc = true := by
  by_cases h : pc < 46
  · exact all_range 0 46 ck_89_0 pc (Nat.zero_le _) (by omega)
  · have e : Nat.ble 46 pc = true := Nat.ble_eq.mpr (by omega)
    have r : ri 89 pc = none := by
      show rc_89 pc = none
      unfold rc_89
      rw [e]
      rfl
    unfold chk
    rw [r]
theorem cg_90 (pc : Nat) : chk 90 pc = true := by
  by_cases h : pc < 25
  · exact all_range 0 25 ck_90_0 pc (Nat.zero_le _) (by omega)
  · have e : Nat.ble 25 pc = true := Nat.ble_eq.mpr (by omega)
    have r : ri 90 pc = none := by
      show rc_90 pc = none
      unfold rc_90
      rw [e]
      rfl
    unfold chk
    rw [r]
theorem cg_91 (pc : Nat) : chk 91 pc = true := by
  by_cases h : pc < 134
  · exact all_range 0 134 ck_91_0 pc (Nat.zero_le _) (by omega)
  · have e : Nat.ble 134 pc = true := Nat.ble_eq.mpr (by omega)
    have r : ri 91 pc = none := by
      show rc_91 pc = none
      unfold rc_91
      rw [e]
      rfl
    unfold chk
    rw [r]
theorem cg_92 (pc : Nat) : chk 92 pc = true := by
  by_cases h : pc < 13
  · exact all_range 0 13 ck_92_0 pc (Nat.zero_le _) (by omega)
  · have e : Nat.ble 13 pc = true := Nat.ble_eq.mpr (by omega)
    have r : ri 92 pc = none := by
      show rc_92 pc = none
      unfold rc_92
      rw [e]
      rfl
    unfold chk
    rw [r]
theorem cg_93 (pc : Nat) : chk 93 pc = true := by
  by_cases h : pc < 94
  · exact all_range 0 94 ck_93_0 pc (Nat.zero_le _) (by omega)
  · have e : Nat.ble 94 pc = true := Nat.ble_eq.mpr (by omega)
    have r : ri 93 pc = none := by
      show rc_93 pc = none
      unfold rc_93
      rw [e]
      rfl
    unfold chk
    rw [r]
theorem cg_94 (pc : Nat) : chk 94 pc = true := by
  by_cases h : pc < 11
  · exact all_range 0 11 ck_94_0 pc (Nat.zero_le _) (by omega)
  · have e : Nat.ble 11 pc = true := Nat.ble_eq.mpr (by omega)
    have r : ri 94 pc = none := by
      show rc_94 pc = none
      unfold rc_94
      rw [e]
      rfl
    unfold chk
    rw [r]
theorem cg_95 (pc : Nat) : chk 95 pc = true := by
  by_cases h : pc < 80
  · exact all_range 0 80 ck_95_0 pc (Nat.zero_le _) (by omega)
  · have e : Nat.ble 80 pc = true := Nat.ble_eq.mpr (by omega)
    have r : ri 95 pc = none := by
      show rc_95 pc = none
      unfold rc_95
      rw [e]
      rfl
    unfold chk
    rw [r]
theorem cg_96 (pc : Nat) : chk 96 pc = true := by
  by_cases h : pc < 56
  · exact all_range 0 56 ck_96_0 pc (Nat.zero_le _) (by omega)
  · have e : Nat.ble 56 pc = true := Nat.ble_eq.mpr (by omega)
    have r : ri 96 pc = none := by
      show rc_96 pc = none
      unfold rc_96
      rw [e]
      rfl
    unfold chk
    rw [r]
theorem cg_97 (pc : Nat) : chk 97 pc = true := by
  by_cases h : pc < 24
  · exact all_range 0 24 ck_97_0 pc (Nat.zero_le _) (by omega)
  · have e : Nat.ble 24 pc = true := Nat.ble_eq.mpr (by omega)
    have r : ri 97 pc = none := by
      show rc_97 pc = none
      unfold rc_97
      rw [e]
      rfl
    unfold chk
    rw [r]
theorem cg_98 (pc : Nat) : chk 98 pc = true := by
  by_cases h : pc < 104
  · exact all_range 0 104 ck_98_0 pc (Nat.zero_le _) (by omega)
  · have e : Nat.ble 104 pc = true := Nat.ble_eq.mpr (by omega)
    have r : ri 98 pc = none := by
      show rc_98 pc = none
      unfold rc_98
      rw [e]
      rfl
    unfold chk
    rw [r]
theorem cg_99 (pc : Nat) : chk 99 pc = true := by
  by_cases h : pc < 46
  · exact all_range 0 46 ck_99_0 pc (Nat.zero_le _) (by omega)
  · have e : Nat.ble 46 pc = true := Nat.ble_eq.mpr (by omega)
    have r : ri 99 pc = none := by
      show rc_99 pc = none
      unfold rc_99
      rw [e]
      rfl
    unfold chk
    rw [r]
theorem cg_100 (pc : Nat) : chk 100 pc = true := by
  by_cases h : pc < 8
  · exact all_range 0 8 ck_100_0 pc (Nat.zero_le _) (by omega)
  · have e : Nat.ble 8 pc = true := Nat.ble_eq.mpr (by omega)
    have r : ri 100 pc = none := by
      show rc_100 pc = none
      unfold rc_100
      rw [e]
      rfl
    unfold chk
    rw [r]
theorem cg_101 (pc : Nat) : chk 101 pc = true := by
  by_cases h : pc < 10
  · exact all_range 0 10 ck_101_0 pc (Nat.zero_le _) (by omega)
  · have e : Nat.ble 10 pc = true := Nat.ble_eq.mpr (by omega)
    have r : ri 101 pc = none := by
      show rc_101 pc = none
      unfold rc_101
      rw [e]
      rfl
    unfold chk
    rw [r]
theorem cg_102 (pc : Nat) : chk 102 pc = true := by
  by_cases h : pc < 34
  · exact all_range 0 34 ck_102_0 pc (Nat.zero_le _) (by omega)
  · have e : Nat.ble 34 pc = true := Nat.ble_eq.mpr (by omega)
    have r : ri 102 pc = none := by
      show rc_102 pc = none
      unfold rc_102
      rw [e]
      rfl
    unfold chk
    rw [r]
theorem cg_103 (pc : Nat) : chk 103 pc = true := by
  by_cases h : pc < 30
  · exact all_range 0 30 ck_103_0 pc (Nat.zero_le _) (by omega)
  · have e : Nat.ble 30 pc = true := Nat.ble_eq.mpr (by omega)
    have r : ri 103 pc = none := by
      show rc_103 pc = none
      unfold rc_103
      rw [e]
      rfl
    unfold chk
    rw [r]
theorem cg_104 (pc : Nat) : chk 104 pc = true := by
  by_cases h : pc < 15
  · exact all_range 0 15 ck_104_0 pc (Nat.zero_le _) (by omega)
  · have e : Nat.ble 15 pc = true := Nat.ble_eq.mpr (by omega)
    have r : ri 104 pc = none := by
      show rc_104 pc = none
      unfold rc_104
      rw [e]
      rfl
    unfold chk
    rw [r]
theorem cg_105 (pc : Nat) : chk 105 pc = true := by
  by_cases h : pc < 90
  · exact all_range 0 90 ck_105_0 pc (Nat.zero_le _) (by omega)
  · have e : Nat.ble 90 pc = true := Nat.ble_eq.mpr (by omega)
    have r : ri 105 pc = none := by
      show rc_105 pc = none
      unfold rc_105
      rw [e]
      rfl
    unfold chk
    rw [r]
theorem cg_106 (pc : Nat) : chk 106 pc = true := by
  by_cases h : pc < 54
  · exact all_range 0 54 ck_106_0 pc (Nat.zero_le _) (by omega)
  · have e : Nat.ble 54 pc = true := Nat.ble_eq.mpr (by omega)
    have r : ri 106 pc = none := by
      show rc_106 pc = none
      unfold rc_106
      rw [e]
      rfl
    unfold chk
    rw [r]
theorem cg_107 (pc : Nat) : chk 107 pc = true := by
  by_cases h : pc < 24
  · exact all_range 0 24 ck_107_0 pc (Nat.zero_le _) (by omega)
  · have e : Nat.ble 24 pc = true := Nat.ble_eq.mpr (by omega)
    have r : ri 107 pc = none := by
      show rc_107 pc = none
      unfold rc_107
      rw [e]
      rfl
    unfold chk
    rw [r]
theorem cg_108 (pc : Nat) : chk 108 pc = true := by
  by_cases h : pc < 33
  · exact all_range 0 33 ck_108_0 pc (Nat.zero_le _) (by omega)
  · have e : Nat.ble 33 pc = true := Nat.ble_eq.mpr (by omega)
    have r : ri 108 pc = none := by
      show rc_108 pc = none
      unfold rc_108
      rw [e]
      rfl
    unfold chk
    rw [r]
theorem cg_109 (pc : Nat) : chk 109 pc = true := by
  by_cases h : pc < 62
  · exact all_range 0 62 ck_109_0 pc (Nat.zero_le _) (by omega)
  · have e : Nat.ble 62 pc = true := Nat.ble_eq.mpr (by omega)
    have r : ri 109 pc = none := by
      show rc_109 pc = none
      unfold rc_109
      rw [e]
      rfl
    unfold chk
    rw [r]
theorem cg_110 (pc : Nat) : chk 110 pc = true := by
  by_cases h : pc < 68
  · exact all_range 0 68 ck_110_0 pc (Nat.zero_le _) (by omega)
  · have e : Nat.ble 68 pc = true := Nat.ble_eq.mpr (by omega)
    have r : ri 110 pc = none := by
      show rc_110 pc = none
      unfold rc_110
      rw [e]
      rfl
    unfold chk
    rw [r]
theorem cg_111 (pc : Nat) : chk 111 pc = true := by
  by_cases h : pc < 81
  · exact all_range 0 81 ck_111_0 pc (Nat.zero_le _) (by omega)
  · have e : Nat.ble 81 pc = true := Nat.ble_eq.mpr (by omega)
    have r : ri 111 pc = none := by
      show rc_111 pc = none
      unfold rc_111
      rw [e]
      rfl
    unfold chk
    rw [r]
theorem cg_112 (pc : Nat) : chk 112 pc = true := by
  by_cases h : pc < 22
  · exact all_range 0 22 ck_112_0 pc (Nat.zero_le _) (by omega)
  · have e : Nat.ble 22 pc = true := Nat.ble_eq.mpr (by omega)
    have r : ri 112 pc = none := by
      show rc_112 pc = none
      unfold rc_112
      rw [e]
      rfl
    unfold chk
    rw [r]
theorem cg_113 (pc : Nat) : chk 113 pc = true := by
  by_cases h : pc < 27
  · exact all_range 0 27 ck_113_0 pc (Nat.zero_le _) (by omega)
  · have e : Nat.ble 27 pc = true := Nat.ble_eq.mpr (by omega)
    have r : ri 113 pc = none := by
      show rc_113 pc = none
      unfold rc_113
      rw [e]
      rfl
    unfold chk
    rw [r]
theorem cg_114 (pc : Nat) : chk 114 pc = true := by
  by_cases h : pc < 74
  · exact all_range 0 74 ck_114_0 pc (Nat.zero_le _) (by omega)
  · have e : Nat.ble 74 pc = true := Nat.ble_eq.mpr (by omega)
    have r : ri 114 pc = none := by
      show rc_114 pc = none
      unfold rc_114
      rw [e]
      rfl
    unfold chk
    rw [r]
theorem cg_115 (pc : Nat) : chk 115 pc = true := by
  by_cases h : pc < 17
  · exact all_range 0 17 ck_115_0 pc (Nat.zero_le _) (by omega)
  · have e : Nat.ble 17 pc = true := Nat.ble_eq.mpr (by omega)
    have r : ri 115 pc = none := by
      show rc_115 pc = none
      unfold rc_115
      rw [e]
      rfl
    unfold chk
    rw [r]
theorem cg_116 (pc : Nat) : chk 116 pc = true := by
  by_cases h : pc < 38
  · exact all_range 0 38 ck_116_0 pc (Nat.zero_le _) (by omega)
  · have e : Nat.ble 38 pc = true := Nat.ble_eq.mpr (by omega)
    have r : ri 116 pc = none := by
      show rc_116 pc = none
      unfold rc_116
      rw [e]
      rfl
    unfold chk
    rw [r]
theorem cg_117 (pc : Nat) : chk 117 pc = true := by
  by_cases h : pc < 15
  · exact all_range 0 15 ck_117_0 pc (Nat.zero_le _) (by omega)
  · have e : Nat.ble 15 pc = true := Nat.ble_eq.mpr (by omega)
    have r : ri 117 pc = none := by
      show rc_117 pc = none
      unfold rc_117
      rw [e]
      rfl
    unfold chk
    rw [r]
theorem cg_118 (pc : Nat) : chk 118 pc = true := by
  by_cases h : pc < 34
  · exact all_range 0 34 ck_118_0 pc (Nat.zero_le _) (by omega)
  · have e : Nat.ble 34 pc = true := Nat.ble_eq.mpr (by omega)
    have r : ri 118 pc = none := by
      show rc_118 pc = none
      unfold rc_118
      rw [e]
      rfl
    unfold chk
    rw [r]
theorem cg_119 (pc : Nat) : chk 119 pc = true := by
  by_cases h : pc < 48
  · exact all_range 0 48 ck_119_0 pc (Nat.zero_le _) (by omega)
  · have e : Nat.ble 48 pc = true := Nat.ble_eq.mpr (by omega)
    have r : ri 119 pc = none := by
      show rc_119 pc = none
      unfold rc_119
      rw [e]
      rfl
    unfold chk
    rw [r]
theorem cg_120 (pc : Nat) : chk 120 pc = true := by
  by_cases h : pc < 65
  · exact all_range 0 65 ck_120_0 pc (Nat.zero_le _) (by omega)
  · have e : Nat.ble 65 pc = true := Nat.ble_eq.mpr (by omega)
    have r : ri 120 pc = none := by
      show rc_120 pc = none
      unfold rc_120
      rw [e]
      rfl
    unfold chk
    rw [r]
theorem cg_121 (pc : Nat) : chk 121 pc = true := by
  by_cases h : pc < 69
  · exact all_range 0 69 ck_121_0 pc (Nat.zero_le _) (by omega)
  · have e : Nat.ble 69 pc = true := Nat.ble_eq.mpr (by omega)
    have r : ri 121 pc = none := by
      show rc_121 pc = none
      unfold rc_121
      rw [e]
      rfl
    unfold chk
    rw [r]
theorem cg_122 (pc : Nat) : chk 122 pc = true := by
  by_cases h : pc < 66
  · exact all_range 0 66 ck_122_0 pc (Nat.zero_le _) (by omega)
  · have e : Nat.ble 66 pc = true := Nat.ble_eq.mpr (by omega)
    have r : ri 122 pc = none := by
      show rc_122 pc = none
      unfold rc_122
      rw [e]
      rfl
    unfold chk
    rw [r]
theorem cg_123 (pc : Nat) : chk 123 pc = true := by
  by_cases h : pc < 102
  · exact all_range 0 102 ck_123_0 pc (Nat.zero_le _) (by omega)
  · have e : Nat.ble 102 pc = true := Nat.ble_eq.mpr (by omega)
    have r : ri 123 pc = none := by
      show rc_123 pc = none
      unfold rc_123
      rw [e]
      rfl
    unfold chk
    rw [r]
theorem cg_124 (pc : Nat) : chk 124 pc = true := by
  by_cases h : pc < 37
  · exact all_range 0 37 ck_124_0 pc (Nat.zero_le _) (by omega)
  · have e : Nat.ble 37 pc = true := Nat.ble_eq.mpr (by omega)
    have r : ri 124 pc = none := by
      show rc_124 pc = none
      unfold rc_124
      rw [e]
      rfl
    unfold chk
    rw [r]
theorem cg_125 (pc : Nat) : chk 125 pc = true := by
  by_cases h : pc < 5
  · exact all_range 0 5 ck_125_0 pc (Nat.zero_le _) (by omega)
  · have e : Nat.ble 5 pc = true := Nat.ble_eq.mpr (by omega)
    have r : ri 125 pc = none := by
      show rc_125 pc = none
      unfold rc_125
      rw [e]
      rfl
    unfold chk
    rw [r]
theorem cg_126 (pc : Nat) : chk 126 pc = true := by
  by_cases h : pc < 213
  · by_cases h0 : pc < 150
    · exact all_range 0 150 ck_126_0 pc (by omega) (by omega)
    exact all_range 150 63 ck_126_150 pc (by omega) (by omega)
  · have e : Nat.ble 213 pc = true := Nat.ble_eq.mpr (by omega)
    have r : ri 126 pc = none := by
      show rc_126 pc = none
      unfold rc_126
      rw [e]
      rfl
    unfold chk
    rw [r]
theorem cg_127 (pc : Nat) : chk 127 pc = true := by
  by_cases h : pc < 9
  · exact all_range 0 9 ck_127_0 pc (Nat.zero_le _) (by omega)
  · have e : Nat.ble 9 pc = true := Nat.ble_eq.mpr (by omega)
    have r : ri 127 pc = none := by
      show rc_127 pc = none
      unfold rc_127
      rw [e]
      rfl
    unfold chk
    rw [r]
theorem cg_128 (pc : Nat) : chk 128 pc = true := by
  by_cases h : pc < 10
  · exact all_range 0 10 ck_128_0 pc (Nat.zero_le _) (by omega)
  · have e : Nat.ble 10 pc = true := Nat.ble_eq.mpr (by omega)
    have r : ri 128 pc = none := by
      show rc_128 pc = none
      unfold rc_128
      rw [e]
      rfl
    unfold chk
    rw [r]
theorem cg_129 (pc : Nat) : chk 129 pc = true := by
  by_cases h : pc < 10
  · exact all_range 0 10 ck_129_0 pc (Nat.zero_le _) (by omega)
  · have e : Nat.ble 10 pc = true := Nat.ble_eq.mpr (by omega)
    have r : ri 129 pc = none := by
      show rc_129 pc = none
      unfold rc_129
      rw [e]
      rfl
    unfold chk
    rw [r]
theorem cg_130 (pc : Nat) : chk 130 pc = true := by
  by_cases h : pc < 61
  · exact all_range 0 61 ck_130_0 pc (Nat.zero_le _) (by omega)
  · have e : Nat.ble 61 pc = true := Nat.ble_eq.mpr (by omega)
    have r : ri 130 pc = none := by
      show rc_130 pc = none
      unfold rc_130
      rw [e]
      rfl
    unfold chk
    rw [r]
theorem cg_131 (pc : Nat) : chk 131 pc = true := by
  by_cases h : pc < 122
  · exact all_range 0 122 ck_131_0 pc (Nat.zero_le _) (by omega)
  · have e : Nat.ble 122 pc = true := Nat.ble_eq.mpr (by omega)
    have r : ri 131 pc = none := by
      show rc_131 pc = none
      unfold rc_131
      rw [e]
      rfl
    unfold chk
    rw [r]
theorem cg_132 (pc : Nat) : chk 132 pc = true := by
  by_cases h : pc < 41
  · exact all_range 0 41 ck_132_0 pc (Nat.zero_le _) (by omega)
  · have e : Nat.ble 41 pc = true := Nat.ble_eq.mpr (by omega)
    have r : ri 132 pc = none := by
      show rc_132 pc = none
      unfold rc_132
      rw [e]
      rfl
    unfold chk
    rw [r]
theorem cg_133 (pc : Nat) : chk 133 pc = true := by
  by_cases h : pc < 12
  · exact all_range 0 12 ck_133_0 pc (Nat.zero_le _) (by omega)
  · have e : Nat.ble 12 pc = true := Nat.ble_eq.mpr (by omega)
    have r : ri 133 pc = none := by
      show rc_133 pc = none
      unfold rc_133
      rw [e]
      rfl
    unfold chk
    rw [r]
theorem cg_134 (pc : Nat) : chk 134 pc = true := by
  by_cases h : pc < 12
  · exact all_range 0 12 ck_134_0 pc (Nat.zero_le _) (by omega)
  · have e : Nat.ble 12 pc = true := Nat.ble_eq.mpr (by omega)
    have r : ri 134 pc = none := by
      show rc_134 pc = none
      unfold rc_134
      rw [e]
      rfl
    unfold chk
    rw [r]
theorem cg_135 (pc : Nat) : chk 135 pc = true := by
  by_cases h : pc < 146
  · exact all_range 0 146 ck_135_0 pc (Nat.zero_le _) (by omega)
  · have e : Nat.ble 146 pc = true := Nat.ble_eq.mpr (by omega)
    have r : ri 135 pc = none := by
      show rc_135 pc = none
      unfold rc_135
      rw [e]
      rfl
    unfold chk
    rw [r]
theorem cg_136 (pc : Nat) : chk 136 pc = true := by
  by_cases h : pc < 18
  · exact all_range 0 18 ck_136_0 pc (Nat.zero_le _) (by omega)
  · have e : Nat.ble 18 pc = true := Nat.ble_eq.mpr (by omega)
    have r : ri 136 pc = none := by
      show rc_136 pc = none
      unfold rc_136
      rw [e]
      rfl
    unfold chk
    rw [r]
theorem cg_137 (pc : Nat) : chk 137 pc = true := by
  by_cases h : pc < 16
  · exact all_range 0 16 ck_137_0 pc (Nat.zero_le _) (by omega)
  · have e : Nat.ble 16 pc = true := Nat.ble_eq.mpr (by omega)
    have r : ri 137 pc = none := by
      show rc_137 pc = none
      unfold rc_137
      rw [e]
      rfl
    unfold chk
    rw [r]
theorem cg_138 (pc : Nat) : chk 138 pc = true := by
  by_cases h : pc < 18
  · exact all_range 0 18 ck_138_0 pc (Nat.zero_le _) (by omega)
  · have e : Nat.ble 18 pc = true := Nat.ble_eq.mpr (by omega)
    have r : ri 138 pc = none := by
      show rc_138 pc = none
      unfold rc_138
      rw [e]
      rfl
    unfold chk
    rw [r]
theorem cg_139 (pc : Nat) : chk 139 pc = true := by
  by_cases h : pc < 75
  · exact all_range 0 75 ck_139_0 pc (Nat.zero_le _) (by omega)
  · have e : Nat.ble 75 pc = true := Nat.ble_eq.mpr (by omega)
    have r : ri 139 pc = none := by
      show rc_139 pc = none
      unfold rc_139
      rw [e]
      rfl
    unfold chk
    rw [r]
theorem cg_140 (pc : Nat) : chk 140 pc = true := by
  by_cases h : pc < 18
  · exact all_range 0 18 ck_140_0 pc (Nat.zero_le _) (by omega)
  · have e : Nat.ble 18 pc = true := Nat.ble_eq.mpr (by omega)
    have r : ri 140 pc = none := by
      show rc_140 pc = none
      unfold rc_140
      rw [e]
      rfl
    unfold chk
    rw [r]
theorem cg_141 (pc : Nat) : chk 141 pc = true := by
  by_cases h : pc < 42
  · exact all_range 0 42 ck_141_0 pc (Nat.zero_le _) (by omega)
  · have e : Nat.ble 42 pc = true := Nat.ble_eq.mpr (by omega)
    have r : ri 141 pc = none := by
      show rc_141 pc = none
      unfold rc_141
      rw [e]
      rfl
    unfold chk
    rw [r]
theorem cg_142 (pc : Nat) : chk 142 pc = true := by
  by_cases h : pc < 126
  · exact all_range 0 126 ck_142_0 pc (Nat.zero_le _) (by omega)
  · have e : Nat.ble 126 pc = true := Nat.ble_eq.mpr (by omega)
    have r : ri 142 pc = none := by
      show rc_142 pc = none
      unfold rc_142
      rw [e]
      rfl
    unfold chk
    rw [r]
theorem cg_143 (pc : Nat) : chk 143 pc = true := by
  by_cases h : pc < 18
  · exact all_range 0 18 ck_143_0 pc (Nat.zero_le _) (by omega)
  · have e : Nat.ble 18 pc = true := Nat.ble_eq.mpr (by omega)
    have r : ri 143 pc = none := by
      show rc_143 pc = none
      unfold rc_143
      rw [e]
      rfl
    unfold chk
    rw [r]
theorem cg_144 (pc : Nat) : chk 144 pc = true := by
  by_cases h : pc < 42
  · exact all_range 0 42 ck_144_0 pc (Nat.zero_le _) (by omega)
  · have e : Nat.ble 42 pc = true := Nat.ble_eq.mpr (by omega)
    have r : ri 144 pc = none := by
      show rc_144 pc = none
      unfold rc_144
      rw [e]
      rfl
    unfold chk
    rw [r]
theorem cg_145 (pc : Nat) : chk 145 pc = true := by
  by_cases h : pc < 64
  · exact all_range 0 64 ck_145_0 pc (Nat.zero_le _) (by omega)
  · have e : Nat.ble 64 pc = true := Nat.ble_eq.mpr (by omega)
    have r : ri 145 pc = none := by
      show rc_145 pc = none
      unfold rc_145
      rw [e]
      rfl
    unfold chk
    rw [r]
theorem cg_146 (pc : Nat) : chk 146 pc = true := by
  by_cases h : pc < 12
  · exact all_range 0 12 ck_146_0 pc (Nat.zero_le _) (by omega)
  · have e : Nat.ble 12 pc = true := Nat.ble_eq.mpr (by omega)
    have r : ri 146 pc = none := by
      show rc_146 pc = none
      unfold rc_146
      rw [e]
      rfl
    unfold chk
    rw [r]
theorem cg_147 (pc : Nat) : chk 147 pc = true := by
  by_cases h : pc < 33
  · exact all_range 0 33 ck_147_0 pc (Nat.zero_le _) (by omega)
  · have e : Nat.ble 33 pc = true := Nat.ble_eq.mpr (by omega)
    have r : ri 147 pc = none := by
      show rc_147 pc = none
      unfold rc_147
      rw [e]
      rfl
    unfold chk
    rw [r]
theorem cg_148 (pc : Nat) : chk 148 pc = true := by
  by_cases h : pc < 12
  · exact all_range 0 12 ck_148_0 pc (Nat.zero_le _) (by omega)
  · have e : Nat.ble 12 pc = true := Nat.ble_eq.mpr (by omega)
    have r : ri 148 pc = none := by
      show rc_148 pc = none
      unfold rc_148
      rw [e]
      rfl
    unfold chk
    rw [r]
theorem cg_149 (pc : Nat) : chk 149 pc = true := by
  by_cases h : pc < 58
  · exact all_range 0 58 ck_149_0 pc (Nat.zero_le _) (by omega)
  · have e : Nat.ble 58 pc = true := Nat.ble_eq.mpr (by omega)
    have r : ri 149 pc = none := by
      show rc_149 pc = none
      unfold rc_149
      rw [e]
      rfl
    unfold chk
    rw [r]
theorem cg_150 (pc : Nat) : chk 150 pc = true := by
  by_cases h : pc < 41
  · exact all_range 0 41 ck_150_0 pc (Nat.zero_le _) (by omega)
  · have e : Nat.ble 41 pc = true := Nat.ble_eq.mpr (by omega)
    have r : ri 150 pc = none := by
      show rc_150 pc = none
      unfold rc_150
      rw [e]
      rfl
    unfold chk
    rw [r]
theorem cg_151 (pc : Nat) : chk 151 pc = true := by
  by_cases h : pc < 146
  · exact all_range 0 146 ck_151_0 pc (Nat.zero_le _) (by omega)
  · have e : Nat.ble 146 pc = true := Nat.ble_eq.mpr (by omega)
    have r : ri 151 pc = none := by
      show rc_151 pc = none
      unfold rc_151
      rw [e]
      rfl
    unfold chk
    rw [r]
theorem cg_152 (pc : Nat) : chk 152 pc = true := by
  by_cases h : pc < 20
  · exact all_range 0 20 ck_152_0 pc (Nat.zero_le _) (by omega)
  · have e : Nat.ble 20 pc = true := Nat.ble_eq.mpr (by omega)
    have r : ri 152 pc = none := by
      show rc_152 pc = none
      unfold rc_152
      rw [e]
      rfl
    unfold chk
    rw [r]
theorem cg_153 (pc : Nat) : chk 153 pc = true := by
  by_cases h : pc < 286
  · by_cases h0 : pc < 150
    · exact all_range 0 150 ck_153_0 pc (by omega) (by omega)
    exact all_range 150 136 ck_153_150 pc (by omega) (by omega)
  · have e : Nat.ble 286 pc = true := Nat.ble_eq.mpr (by omega)
    have r : ri 153 pc = none := by
      show rc_153 pc = none
      unfold rc_153
      rw [e]
      rfl
    unfold chk
    rw [r]
theorem cg_154 (pc : Nat) : chk 154 pc = true := by
  by_cases h : pc < 23
  · exact all_range 0 23 ck_154_0 pc (Nat.zero_le _) (by omega)
  · have e : Nat.ble 23 pc = true := Nat.ble_eq.mpr (by omega)
    have r : ri 154 pc = none := by
      show rc_154 pc = none
      unfold rc_154
      rw [e]
      rfl
    unfold chk
    rw [r]
theorem cg_155 (pc : Nat) : chk 155 pc = true := by
  by_cases h : pc < 18
  · exact all_range 0 18 ck_155_0 pc (Nat.zero_le _) (by omega)
  · have e : Nat.ble 18 pc = true := Nat.ble_eq.mpr (by omega)
    have r : ri 155 pc = none := by
      show rc_155 pc = none
      unfold rc_155
      rw [e]
      rfl
    unfold chk
    rw [r]
theorem cg_156 (pc : Nat) : chk 156 pc = true := by
  by_cases h : pc < 260
  · by_cases h0 : pc < 150
    · exact all_range 0 150 ck_156_0 pc (by omega) (by omega)
    exact all_range 150 110 ck_156_150 pc (by omega) (by omega)
  · have e : Nat.ble 260 pc = true := Nat.ble_eq.mpr (by omega)
    have r : ri 156 pc = none := by
      show rc_156 pc = none
      unfold rc_156
      rw [e]
      rfl
    unfold chk
    rw [r]
theorem cg_157 (pc : Nat) : chk 157 pc = true := by
  by_cases h : pc < 26
  · exact all_range 0 26 ck_157_0 pc (Nat.zero_le _) (by omega)
  · have e : Nat.ble 26 pc = true := Nat.ble_eq.mpr (by omega)
    have r : ri 157 pc = none := by
      show rc_157 pc = none
      unfold rc_157
      rw [e]
      rfl
    unfold chk
    rw [r]
theorem cg_158 (pc : Nat) : chk 158 pc = true := by
  by_cases h : pc < 38
  · exact all_range 0 38 ck_158_0 pc (Nat.zero_le _) (by omega)
  · have e : Nat.ble 38 pc = true := Nat.ble_eq.mpr (by omega)
    have r : ri 158 pc = none := by
      show rc_158 pc = none
      unfold rc_158
      rw [e]
      rfl
    unfold chk
    rw [r]
theorem cg_159 (pc : Nat) : chk 159 pc = true := by
  by_cases h : pc < 21
  · exact all_range 0 21 ck_159_0 pc (Nat.zero_le _) (by omega)
  · have e : Nat.ble 21 pc = true := Nat.ble_eq.mpr (by omega)
    have r : ri 159 pc = none := by
      show rc_159 pc = none
      unfold rc_159
      rw [e]
      rfl
    unfold chk
    rw [r]
theorem cg_160 (pc : Nat) : chk 160 pc = true := by
  by_cases h : pc < 141
  · exact all_range 0 141 ck_160_0 pc (Nat.zero_le _) (by omega)
  · have e : Nat.ble 141 pc = true := Nat.ble_eq.mpr (by omega)
    have r : ri 160 pc = none := by
      show rc_160 pc = none
      unfold rc_160
      rw [e]
      rfl
    unfold chk
    rw [r]
theorem cg_161 (pc : Nat) : chk 161 pc = true := by
  by_cases h : pc < 67
  · exact all_range 0 67 ck_161_0 pc (Nat.zero_le _) (by omega)
  · have e : Nat.ble 67 pc = true := Nat.ble_eq.mpr (by omega)
    have r : ri 161 pc = none := by
      show rc_161 pc = none
      unfold rc_161
      rw [e]
      rfl
    unfold chk
    rw [r]
theorem cg_162 (pc : Nat) : chk 162 pc = true := by
  by_cases h : pc < 22
  · exact all_range 0 22 ck_162_0 pc (Nat.zero_le _) (by omega)
  · have e : Nat.ble 22 pc = true := Nat.ble_eq.mpr (by omega)
    have r : ri 162 pc = none := by
      show rc_162 pc = none
      unfold rc_162
      rw [e]
      rfl
    unfold chk
    rw [r]
theorem cg_163 (pc : Nat) : chk 163 pc = true := by
  by_cases h : pc < 41
  · exact all_range 0 41 ck_163_0 pc (Nat.zero_le _) (by omega)
  · have e : Nat.ble 41 pc = true := Nat.ble_eq.mpr (by omega)
    have r : ri 163 pc = none := by
      show rc_163 pc = none
      unfold rc_163
      rw [e]
      rfl
    unfold chk
    rw [r]
theorem cg_164 (pc : Nat) : chk 164 pc = true := by
  by_cases h : pc < 10
  · exact all_range 0 10 ck_164_0 pc (Nat.zero_le _) (by omega)
  · have e : Nat.ble 10 pc = true := Nat.ble_eq.mpr (by omega)
    have r : ri 164 pc = none := by
      show rc_164 pc = none
      unfold rc_164
      rw [e]
      rfl
    unfold chk
    rw [r]
theorem cg_165 (pc : Nat) : chk 165 pc = true := by
  by_cases h : pc < 10
  · exact all_range 0 10 ck_165_0 pc (Nat.zero_le _) (by omega)
  · have e : Nat.ble 10 pc = true := Nat.ble_eq.mpr (by omega)
    have r : ri 165 pc = none := by
      show rc_165 pc = none
      unfold rc_165
      rw [e]
      rfl
    unfold chk
    rw [r]
theorem cg_166 (pc : Nat) : chk 166 pc = true := by
  by_cases h : pc < 85
  · exact all_range 0 85 ck_166_0 pc (Nat.zero_le _) (by omega)
  · have e : Nat.ble 85 pc = true := Nat.ble_eq.mpr (by omega)
    have r : ri 166 pc = none := by
      show rc_166 pc = none
      unfold rc_166
      rw [e]
      rfl
    unfold chk
    rw [r]
theorem cg_167 (pc : Nat) : chk 167 pc = true := by
  by_cases h : pc < 82
  · exact all_range 0 82 ck_167_0 pc (Nat.zero_le _) (by omega)
  · have e : Nat.ble 82 pc = true := Nat.ble_eq.mpr (by omega)
    have r : ri 167 pc = none := by
      show rc_167 pc = none
      unfold rc_167
      rw [e]
      rfl
    unfold chk
    rw [r]
theorem cg_168 (pc : Nat) : chk 168 pc = true := by
  by_cases h : pc < 23
  · exact all_range 0 23 ck_168_0 pc (Nat.zero_le _) (by omega)
  · have e : Nat.ble 23 pc = true := Nat.ble_eq.mpr (by omega)
    have r : ri 168 pc = none := by
      show rc_168 pc = none
      unfold rc_168
      rw [e]
      rfl
    unfold chk
    rw [r]
theorem cg_169 (pc : Nat) : chk 169 pc = true := by
  by_cases h : pc < 18
  · exact all_range 0 18 ck_169_0 pc (Nat.zero_le _) (by omega)
  · have e : Nat.ble 18 pc = true := Nat.ble_eq.mpr (by omega)
    have r : ri 169 pc = none := by
      show rc_169 pc = none
      unfold rc_169
      rw [e]
      rfl
    unfold chk
    rw [r]
theorem cg_170 (pc : Nat) : chk 170 pc = true := by
  by_cases h : pc < 53
  · exact all_range 0 53 ck_170_0 pc (Nat.zero_le _) (by omega)
  · have e : Nat.ble 53 pc = true := Nat.ble_eq.mpr (by omega)
    have r : ri 170 pc = none := by
      show rc_170 pc = none
      unfold rc_170
      rw [e]
      rfl
    unfold chk
    rw [r]
theorem cg_171 (pc : Nat) : chk 171 pc = true := by
  by_cases h : pc < 21
  · exact all_range 0 21 ck_171_0 pc (Nat.zero_le _) (by omega)
  · have e : Nat.ble 21 pc = true := Nat.ble_eq.mpr (by omega)
    have r : ri 171 pc = none := by
      show rc_171 pc = none
      unfold rc_171
      rw [e]
      rfl
    unfold chk
    rw [r]
theorem cg_172 (pc : Nat) : chk 172 pc = true := by
  by_cases h : pc < 47
  · exact all_range 0 47 ck_172_0 pc (Nat.zero_le _) (by omega)
  · have e : Nat.ble 47 pc = true := Nat.ble_eq.mpr (by omega)
    have r : ri 172 pc = none := by
      show rc_172 pc = none
      unfold rc_172
      rw [e]
      rfl
    unfold chk
    rw [r]
theorem cg_173 (pc : Nat) : chk 173 pc = true := by
  by_cases h : pc < 348
  · by_cases h0 : pc < 150
    · exact all_range 0 150 ck_173_0 pc (by omega) (by omega)
    by_cases h1 : pc < 300
    · exact all_range 150 150 ck_173_150 pc (by omega) (by omega)
    exact all_range 300 48 ck_173_300 pc (by omega) (by omega)
  · have e : Nat.ble 348 pc = true := Nat.ble_eq.mpr (by omega)
    have r : ri 173 pc = none := by
      show rc_173 pc = none
      unfold rc_173
      rw [e]
      rfl
    unfold chk
    rw [r]
theorem cg_174 (pc : Nat) : chk 174 pc = true := by
  by_cases h : pc < 22
  · exact all_range 0 22 ck_174_0 pc (Nat.zero_le _) (by omega)
  · have e : Nat.ble 22 pc = true := Nat.ble_eq.mpr (by omega)
    have r : ri 174 pc = none := by
      show rc_174 pc = none
      unfold rc_174
      rw [e]
      rfl
    unfold chk
    rw [r]
theorem cg_175 (pc : Nat) : chk 175 pc = true := by
  by_cases h : pc < 28
  · exact all_range 0 28 ck_175_0 pc (Nat.zero_le _) (by omega)
  · have e : Nat.ble 28 pc = true := Nat.ble_eq.mpr (by omega)
    have r : ri 175 pc = none := by
      show rc_175 pc = none
      unfold rc_175
      rw [e]
      rfl
    unfold chk
    rw [r]
theorem cg_176 (pc : Nat) : chk 176 pc = true := by
  by_cases h : pc < 24
  · exact all_range 0 24 ck_176_0 pc (Nat.zero_le _) (by omega)
  · have e : Nat.ble 24 pc = true := Nat.ble_eq.mpr (by omega)
    have r : ri 176 pc = none := by
      show rc_176 pc = none
      unfold rc_176
      rw [e]
      rfl
    unfold chk
    rw [r]
theorem cg_177 (pc : Nat) : chk 177 pc = true := by
  by_cases h : pc < 91
  · exact all_range 0 91 ck_177_0 pc (Nat.zero_le _) (by omega)
  · have e : Nat.ble 91 pc = true := Nat.ble_eq.mpr (by omega)
    have r : ri 177 pc = none := by
      show rc_177 pc = none
      unfold rc_177
      rw [e]
      rfl
    unfold chk
    rw [r]
theorem cg_178 (pc : Nat) : chk 178 pc = true := by
  by_cases h : pc < 19
  · exact all_range 0 19 ck_178_0 pc (Nat.zero_le _) (by omega)
  · have e : Nat.ble 19 pc = true := Nat.ble_eq.mpr (by omega)
    have r : ri 178 pc = none := by
      show rc_178 pc = none
      unfold rc_178
      rw [e]
      rfl
    unfold chk
    rw [r]
theorem cg_179 (pc : Nat) : chk 179 pc = true := by
  by_cases h : pc < 281
  · by_cases h0 : pc < 150
    · exact all_range 0 150 ck_179_0 pc (by omega) (by omega)
    exact all_range 150 131 ck_179_150 pc (by omega) (by omega)
  · have e : Nat.ble 281 pc = true := Nat.ble_eq.mpr (by omega)
    have r : ri 179 pc = none := by
      show rc_179 pc = none
      unfold rc_179
      rw [e]
      rfl
    unfold chk
    rw [r]
theorem cg_180 (pc : Nat) : chk 180 pc = true := by
  by_cases h : pc < 11
  · exact all_range 0 11 ck_180_0 pc (Nat.zero_le _) (by omega)
  · have e : Nat.ble 11 pc = true := Nat.ble_eq.mpr (by omega)
    have r : ri 180 pc = none := by
      show rc_180 pc = none
      unfold rc_180
      rw [e]
      rfl
    unfold chk
    rw [r]
theorem cg_181 (pc : Nat) : chk 181 pc = true := by
  by_cases h : pc < 164
  · by_cases h0 : pc < 150
    · exact all_range 0 150 ck_181_0 pc (by omega) (by omega)
    exact all_range 150 14 ck_181_150 pc (by omega) (by omega)
  · have e : Nat.ble 164 pc = true := Nat.ble_eq.mpr (by omega)
    have r : ri 181 pc = none := by
      show rc_181 pc = none
      unfold rc_181
      rw [e]
      rfl
    unfold chk
    rw [r]
theorem cg_182 (pc : Nat) : chk 182 pc = true := by
  by_cases h : pc < 48
  · exact all_range 0 48 ck_182_0 pc (Nat.zero_le _) (by omega)
  · have e : Nat.ble 48 pc = true := Nat.ble_eq.mpr (by omega)
    have r : ri 182 pc = none := by
      show rc_182 pc = none
      unfold rc_182
      rw [e]
      rfl
    unfold chk
    rw [r]
theorem cg_183 (pc : Nat) : chk 183 pc = true := by
  by_cases h : pc < 10
  · exact all_range 0 10 ck_183_0 pc (Nat.zero_le _) (by omega)
  · have e : Nat.ble 10 pc = true := Nat.ble_eq.mpr (by omega)
    have r : ri 183 pc = none := by
      show rc_183 pc = none
      unfold rc_183
      rw [e]
      rfl
    unfold chk
    rw [r]
theorem cg_184 (pc : Nat) : chk 184 pc = true := by
  by_cases h : pc < 41
  · exact all_range 0 41 ck_184_0 pc (Nat.zero_le _) (by omega)
  · have e : Nat.ble 41 pc = true := Nat.ble_eq.mpr (by omega)
    have r : ri 184 pc = none := by
      show rc_184 pc = none
      unfold rc_184
      rw [e]
      rfl
    unfold chk
    rw [r]
theorem cg_185 (pc : Nat) : chk 185 pc = true := by
  by_cases h : pc < 34
  · exact all_range 0 34 ck_185_0 pc (Nat.zero_le _) (by omega)
  · have e : Nat.ble 34 pc = true := Nat.ble_eq.mpr (by omega)
    have r : ri 185 pc = none := by
      show rc_185 pc = none
      unfold rc_185
      rw [e]
      rfl
    unfold chk
    rw [r]
theorem cg_186 (pc : Nat) : chk 186 pc = true := by
  by_cases h : pc < 83
  · exact all_range 0 83 ck_186_0 pc (Nat.zero_le _) (by omega)
  · have e : Nat.ble 83 pc = true := Nat.ble_eq.mpr (by omega)
    have r : ri 186 pc = none := by
      show rc_186 pc = none
      unfold rc_186
      rw [e]
      rfl
    unfold chk
    rw [r]
theorem cg_187 (pc : Nat) : chk 187 pc = true := by
  by_cases h : pc < 57
  · exact all_range 0 57 ck_187_0 pc (Nat.zero_le _) (by omega)
  · have e : Nat.ble 57 pc = true := Nat.ble_eq.mpr (by omega)
    have r : ri 187 pc = none := by
      show rc_187 pc = none
      unfold rc_187
      rw [e]
      rfl
    unfold chk
    rw [r]
theorem cg_188 (pc : Nat) : chk 188 pc = true := by
  by_cases h : pc < 39
  · exact all_range 0 39 ck_188_0 pc (Nat.zero_le _) (by omega)
  · have e : Nat.ble 39 pc = true := Nat.ble_eq.mpr (by omega)
    have r : ri 188 pc = none := by
      show rc_188 pc = none
      unfold rc_188
      rw [e]
      rfl
    unfold chk
    rw [r]
theorem cg_189 (pc : Nat) : chk 189 pc = true := by
  by_cases h : pc < 62
  · exact all_range 0 62 ck_189_0 pc (Nat.zero_le _) (by omega)
  · have e : Nat.ble 62 pc = true := Nat.ble_eq.mpr (by omega)
    have r : ri 189 pc = none := by
      show rc_189 pc = none
      unfold rc_189
      rw [e]
      rfl
    unfold chk
    rw [r]
theorem cg_190 (pc : Nat) : chk 190 pc = true := by
  by_cases h : pc < 89
  · exact all_range 0 89 ck_190_0 pc (Nat.zero_le _) (by omega)
  · have e : Nat.ble 89 pc = true := Nat.ble_eq.mpr (by omega)
    have r : ri 190 pc = none := by
      show rc_190 pc = none
      unfold rc_190
      rw [e]
      rfl
    unfold chk
    rw [r]
theorem cg_191 (pc : Nat) : chk 191 pc = true := by
  by_cases h : pc < 81
  · exact all_range 0 81 ck_191_0 pc (Nat.zero_le _) (by omega)
  · have e : Nat.ble 81 pc = true := Nat.ble_eq.mpr (by omega)
    have r : ri 191 pc = none := by
      show rc_191 pc = none
      unfold rc_191
      rw [e]
      rfl
    unfold chk
    rw [r]
theorem cg_192 (pc : Nat) : chk 192 pc = true := by
  by_cases h : pc < 29
  · exact all_range 0 29 ck_192_0 pc (Nat.zero_le _) (by omega)
  · have e : Nat.ble 29 pc = true := Nat.ble_eq.mpr (by omega)
    have r : ri 192 pc = none := by
      show rc_192 pc = none
      unfold rc_192
      rw [e]
      rfl
    unfold chk
    rw [r]
theorem cg_193 (pc : Nat) : chk 193 pc = true := by
  by_cases h : pc < 70
  · exact all_range 0 70 ck_193_0 pc (Nat.zero_le _) (by omega)
  · have e : Nat.ble 70 pc = true := Nat.ble_eq.mpr (by omega)
    have r : ri 193 pc = none := by
      show rc_193 pc = none
      unfold rc_193
      rw [e]
      rfl
    unfold chk
    rw [r]
theorem cg_194 (pc : Nat) : chk 194 pc = true := by
  by_cases h : pc < 48
  · exact all_range 0 48 ck_194_0 pc (Nat.zero_le _) (by omega)
  · have e : Nat.ble 48 pc = true := Nat.ble_eq.mpr (by omega)
    have r : ri 194 pc = none := by
      show rc_194 pc = none
      unfold rc_194
      rw [e]
      rfl
    unfold chk
    rw [r]
theorem cg_195 (pc : Nat) : chk 195 pc = true := by
  by_cases h : pc < 19
  · exact all_range 0 19 ck_195_0 pc (Nat.zero_le _) (by omega)
  · have e : Nat.ble 19 pc = true := Nat.ble_eq.mpr (by omega)
    have r : ri 195 pc = none := by
      show rc_195 pc = none
      unfold rc_195
      rw [e]
      rfl
    unfold chk
    rw [r]
theorem cg_196 (pc : Nat) : chk 196 pc = true := by
  by_cases h : pc < 58
  · exact all_range 0 58 ck_196_0 pc (Nat.zero_le _) (by omega)
  · have e : Nat.ble 58 pc = true := Nat.ble_eq.mpr (by omega)
    have r : ri 196 pc = none := by
      show rc_196 pc = none
      unfold rc_196
      rw [e]
      rfl
    unfold chk
    rw [r]
theorem cg_197 (pc : Nat) : chk 197 pc = true := by
  by_cases h : pc < 55
  · exact all_range 0 55 ck_197_0 pc (Nat.zero_le _) (by omega)
  · have e : Nat.ble 55 pc = true := Nat.ble_eq.mpr (by omega)
    have r : ri 197 pc = none := by
      show rc_197 pc = none
      unfold rc_197
      rw [e]
      rfl
    unfold chk
    rw [r]
theorem cg_198 (pc : Nat) : chk 198 pc = true := by
  by_cases h : pc < 89
  · exact all_range 0 89 ck_198_0 pc (Nat.zero_le _) (by omega)
  · have e : Nat.ble 89 pc = true := Nat.ble_eq.mpr (by omega)
    have r : ri 198 pc = none := by
      show rc_198 pc = none
      unfold rc_198
      rw [e]
      rfl
    unfold chk
    rw [r]
theorem cg_199 (pc : Nat) : chk 199 pc = true := by
  by_cases h : pc < 79
  · exact all_range 0 79 ck_199_0 pc (Nat.zero_le _) (by omega)
  · have e : Nat.ble 79 pc = true := Nat.ble_eq.mpr (by omega)
    have r : ri 199 pc = none := by
      show rc_199 pc = none
      unfold rc_199
      rw [e]
      rfl
    unfold chk
    rw [r]
theorem cg_200 (pc : Nat) : chk 200 pc = true := by
  by_cases h : pc < 116
  · exact all_range 0 116 ck_200_0 pc (Nat.zero_le _) (by omega)
  · have e : Nat.ble 116 pc = true := Nat.ble_eq.mpr (by omega)
    have r : ri 200 pc = none := by
      show rc_200 pc = none
      unfold rc_200
      rw [e]
      rfl
    unfold chk
    rw [r]
theorem cg_201 (pc : Nat) : chk 201 pc = true := by
  by_cases h : pc < 10
  · exact all_range 0 10 ck_201_0 pc (Nat.zero_le _) (by omega)
  · have e : Nat.ble 10 pc = true := Nat.ble_eq.mpr (by omega)
    have r : ri 201 pc = none := by
      show rc_201 pc = none
      unfold rc_201
      rw [e]
      rfl
    unfold chk
    rw [r]
theorem cg_202 (pc : Nat) : chk 202 pc = true := by
  by_cases h : pc < 1152
  · by_cases h0 : pc < 150
    · exact all_range 0 150 ck_202_0 pc (by omega) (by omega)
    by_cases h1 : pc < 300
    · exact all_range 150 150 ck_202_150 pc (by omega) (by omega)
    by_cases h2 : pc < 450
    · exact all_range 300 150 ck_202_300 pc (by omega) (by omega)
    by_cases h3 : pc < 600
    · exact all_range 450 150 ck_202_450 pc (by omega) (by omega)
    by_cases h4 : pc < 750
    · exact all_range 600 150 ck_202_600 pc (by omega) (by omega)
    by_cases h5 : pc < 900
    · exact all_range 750 150 ck_202_750 pc (by omega) (by omega)
    by_cases h6 : pc < 1050
    · exact all_range 900 150 ck_202_900 pc (by omega) (by omega)
    exact all_range 1050 102 ck_202_1050 pc (by omega) (by omega)
  · have e : Nat.ble 1152 pc = true := Nat.ble_eq.mpr (by omega)
    have r : ri 202 pc = none := by
      show rc_202 pc = none
      unfold rc_202
      rw [e]
      rfl
    unfold chk
    rw [r]
theorem chk_all (k : Nat) (hk : k < nM) (pc : Nat) : chk k pc = true := by
  have hk : k < 203 := hk
  by_cases h101 : k < 101
  · by_cases h50 : k < 50
    · by_cases h25 : k < 25
      · by_cases h12 : k < 12
        · by_cases h6 : k < 6
          · by_cases h3 : k < 3
            · by_cases h1 : k < 1
              · obtain rfl : k = 0 := by omega
                exact cg_0 pc
              · by_cases h2 : k < 2
                · obtain rfl : k = 1 := by omega
                  exact cg_1 pc
                · obtain rfl : k = 2 := by omega
                  exact cg_2 pc
            · by_cases h4 : k < 4
              · obtain rfl : k = 3 := by omega
                exact cg_3 pc
              · by_cases h5 : k < 5
                · obtain rfl : k = 4 := by omega
                  exact cg_4 pc
                · obtain rfl : k = 5 := by omega
                  exact cg_5 pc
          · by_cases h9 : k < 9
            · by_cases h7 : k < 7
              · obtain rfl : k = 6 := by omega
                exact cg_6 pc
              · by_cases h8 : k < 8
                · obtain rfl : k = 7 := by omega
                  exact cg_7 pc
                · obtain rfl : k = 8 := by omega
                  exact cg_8 pc
            · by_cases h10 : k < 10
              · obtain rfl : k = 9 := by omega
                exact cg_9 pc
              · by_cases h11 : k < 11
                · obtain rfl : k = 10 := by omega
                  exact cg_10 pc
                · obtain rfl : k = 11 := by omega
                  exact cg_11 pc
        · by_cases h18 : k < 18
          · by_cases h15 : k < 15
            · by_cases h13 : k < 13
              · obtain rfl : k = 12 := by omega
                exact cg_12 pc
              · by_cases h14 : k < 14
                · obtain rfl : k = 13 := by omega
                  exact cg_13 pc
                · obtain rfl : k = 14 := by omega
                  exact cg_14 pc
            · by_cases h16 : k < 16
              · obtain rfl : k = 15 := by omega
                exact cg_15 pc
              · by_cases h17 : k < 17
                · obtain rfl : k = 16 := by omega
                  exact cg_16 pc
                · obtain rfl : k = 17 := by omega
                  exact cg_17 pc
          · by_cases h21 : k < 21
            · by_cases h19 : k < 19
              · obtain rfl : k = 18 := by omega
                exact cg_18 pc
              · by_cases h20 : k < 20
                · obtain rfl : k = 19 := by omega
                  exact cg_19 pc
                · obtain rfl : k = 20 := by omega
                  exact cg_20 pc
            · by_cases h23 : k < 23
              · by_cases h22 : k < 22
                · obtain rfl : k = 21 := by omega
                  exact cg_21 pc
                · obtain rfl : k = 22 := by omega
                  exact cg_22 pc
              · by_cases h24 : k < 24
                · obtain rfl : k = 23 := by omega
                  exact cg_23 pc
                · obtain rfl : k = 24 := by omega
                  exact cg_24 pc
      · by_cases h37 : k < 37
        · by_cases h31 : k < 31
          · by_cases h28 : k < 28
            · by_cases h26 : k < 26
              · obtain rfl : k = 25 := by omega
                exact cg_25 pc
              · by_cases h27 : k < 27
                · obtain rfl : k = 26 := by omega
                  exact cg_26 pc
                · obtain rfl : k = 27 := by omega
                  exact cg_27 pc
            · by_cases h29 : k < 29
              · obtain rfl : k = 28 := by omega
                exact cg_28 pc
              · by_cases h30 : k < 30
                · obtain rfl : k = 29 := by omega
                  exact cg_29 pc
                · obtain rfl : k = 30 := by omega
                  exact cg_30 pc
          · by_cases h34 : k < 34
            · by_cases h32 : k < 32
              · obtain rfl : k = 31 := by omega
                exact cg_31 pc
              · by_cases h33 : k < 33
                · obtain rfl : k = 32 := by omega
                  exact cg_32 pc
                · obtain rfl : k = 33 := by omega
                  exact cg_33 pc
            · by_cases h35 : k < 35
              · obtain rfl : k = 34 := by omega
                exact cg_34 pc
              · by_cases h36 : k < 36
                · obtain rfl : k = 35 := by omega
                  exact cg_35 pc
                · obtain rfl : k = 36 := by omega
                  exact cg_36 pc
        · by_cases h43 : k < 43
          · by_cases h40 : k < 40
            · by_cases h38 : k < 38
              · obtain rfl : k = 37 := by omega
                exact cg_37 pc
              · by_cases h39 : k < 39
                · obtain rfl : k = 38 := by omega
                  exact cg_38 pc
                · obtain rfl : k = 39 := by omega
                  exact cg_39 pc
            · by_cases h41 : k < 41
              · obtain rfl : k = 40 := by omega
                exact cg_40 pc
              · by_cases h42 : k < 42
                · obtain rfl : k = 41 := by omega
                  exact cg_41 pc
                · obtain rfl : k = 42 := by omega
                  exact cg_42 pc
          · by_cases h46 : k < 46
            · by_cases h44 : k < 44
              · obtain rfl : k = 43 := by omega
                exact cg_43 pc
              · by_cases h45 : k < 45
                · obtain rfl : k = 44 := by omega
                  exact cg_44 pc
                · obtain rfl : k = 45 := by omega
                  exact cg_45 pc
            · by_cases h48 : k < 48
              · by_cases h47 : k < 47
                · obtain rfl : k = 46 := by omega
                  exact cg_46 pc
                · obtain rfl : k = 47 := by omega
                  exact cg_47 pc
              · by_cases h49 : k < 49
                · obtain rfl : k = 48 := by omega
                  exact cg_48 pc
                · obtain rfl : k = 49 := by omega
                  exact cg_49 pc
    · by_cases h75 : k < 75
      · by_cases h62 : k < 62
        · by_cases h56 : k < 56
          · by_cases h53 : k < 53
            · by_cases h51 : k < 51
              · obtain rfl : k = 50 := by omega
                exact cg_50 pc
              · by_cases h52 : k < 52
                · obtain rfl : k = 51 := by omega
                  exact cg_51 pc
                · obtain rfl : k = 52 := by omega
                  exact cg_52 pc
            · by_cases h54 : k < 54
              · obtain rfl : k = 53 := by omega
                exact cg_53 pc
              · by_cases h55 : k < 55
                · obtain rfl : k = 54 := by omega
                  exact cg_54 pc
                · obtain rfl : k = 55 := by omega
                  exact cg_55 pc
          · by_cases h59 : k < 59
            · by_cases h57 : k < 57
              · obtain rfl : k = 56 := by omega
                exact cg_56 pc
              · by_cases h58 : k < 58
                · obtain rfl : k = 57 := by omega
                  exact cg_57 pc
                · obtain rfl : k = 58 := by omega
                  exact cg_58 pc
            · by_cases h60 : k < 60
              · obtain rfl : k = 59 := by omega
                exact cg_59 pc
              · by_cases h61 : k < 61
                · obtain rfl : k = 60 := by omega
                  exact cg_60 pc
                · obtain rfl : k = 61 := by omega
                  exact cg_61 pc
        · by_cases h68 : k < 68
          · by_cases h65 : k < 65
            · by_cases h63 : k < 63
              · obtain rfl : k = 62 := by omega
                exact cg_62 pc
              · by_cases h64 : k < 64
                · obtain rfl : k = 63 := by omega
                  exact cg_63 pc
                · obtain rfl : k = 64 := by omega
                  exact cg_64 pc
            · by_cases h66 : k < 66
              · obtain rfl : k = 65 := by omega
                exact cg_65 pc
              · by_cases h67 : k < 67
                · obtain rfl : k = 66 := by omega
                  exact cg_66 pc
                · obtain rfl : k = 67 := by omega
                  exact cg_67 pc
          · by_cases h71 : k < 71
            · by_cases h69 : k < 69
              · obtain rfl : k = 68 := by omega
                exact cg_68 pc
              · by_cases h70 : k < 70
                · obtain rfl : k = 69 := by omega
                  exact cg_69 pc
                · obtain rfl : k = 70 := by omega
                  exact cg_70 pc
            · by_cases h73 : k < 73
              · by_cases h72 : k < 72
                · obtain rfl : k = 71 := by omega
                  exact cg_71 pc
                · obtain rfl : k = 72 := by omega
                  exact cg_72 pc
              · by_cases h74 : k < 74
                · obtain rfl : k = 73 := by omega
                  exact cg_73 pc
                · obtain rfl : k = 74 := by omega
                  exact cg_74 pc
      · by_cases h88 : k < 88
        · by_cases h81 : k < 81
          · by_cases h78 : k < 78
            · by_cases h76 : k < 76
              · obtain rfl : k = 75 := by omega
                exact cg_75 pc
              · by_cases h77 : k < 77
                · obtain rfl : k = 76 := by omega
                  exact cg_76 pc
                · obtain rfl : k = 77 := by omega
                  exact cg_77 pc
            · by_cases h79 : k < 79
              · obtain rfl : k = 78 := by omega
                exact cg_78 pc
              · by_cases h80 : k < 80
                · obtain rfl : k = 79 := by omega
                  exact cg_79 pc
                · obtain rfl : k = 80 := by omega
                  exact cg_80 pc
          · by_cases h84 : k < 84
            · by_cases h82 : k < 82
              · obtain rfl : k = 81 := by omega
                exact cg_81 pc
              · by_cases h83 : k < 83
                · obtain rfl : k = 82 := by omega
                  exact cg_82 pc
                · obtain rfl : k = 83 := by omega
                  exact cg_83 pc
            · by_cases h86 : k < 86
              · by_cases h85 : k < 85
                · obtain rfl : k = 84 := by omega
                  exact cg_84 pc
                · obtain rfl : k = 85 := by omega
                  exact cg_85 pc
              · by_cases h87 : k < 87
                · obtain rfl : k = 86 := by omega
                  exact cg_86 pc
                · obtain rfl : k = 87 := by omega
                  exact cg_87 pc
        · by_cases h94 : k < 94
          · by_cases h91 : k < 91
            · by_cases h89 : k < 89
              · obtain rfl : k = 88 := by omega
                exact cg_88 pc
              · by_cases h90 : k < 90
                · obtain rfl : k = 89 := by omega
                  exact cg_89 pc
                · obtain rfl : k = 90 := by omega
                  exact cg_90 pc
            · by_cases h92 : k < 92
              · obtain rfl : k = 91 := by omega
                exact cg_91 pc
              · by_cases h93 : k < 93
                · obtain rfl : k = 92 := by omega
                  exact cg_92 pc
                · obtain rfl : k = 93 := by omega
                  exact cg_93 pc
          · by_cases h97 : k < 97
            · by_cases h95 : k < 95
              · obtain rfl : k = 94 := by omega
                exact cg_94 pc
              · by_cases h96 : k < 96
                · obtain rfl : k = 95 := by omega
                  exact cg_95 pc
                · obtain rfl : k = 96 := by omega
                  exact cg_96 pc
            · by_cases h99 : k < 99
              · by_cases h98 : k < 98
                · obtain rfl : k = 97 := by omega
                  exact cg_97 pc
                · obtain rfl : k = 98 := by omega
                  exact cg_98 pc
              · by_cases h100 : k < 100
                · obtain rfl : k = 99 := by omega
                  exact cg_99 pc
                · obtain rfl : k = 100 := by omega
                  exact cg_100 pc
  · by_cases h152 : k < 152
    · by_cases h126 : k < 126
      · by_cases h113 : k < 113
        · by_cases h107 : k < 107
          · by_cases h104 : k < 104
            · by_cases h102 : k < 102
              · obtain rfl : k = 101 := by omega
                exact cg_101 pc
              · by_cases h103 : k < 103
                · obtain rfl : k = 102 := by omega
                  exact cg_102 pc
                · obtain rfl : k = 103 := by omega
                  exact cg_103 pc
            · by_cases h105 : k < 105
              · obtain rfl : k = 104 := by omega
                exact cg_104 pc
              · by_cases h106 : k < 106
                · obtain rfl : k = 105 := by omega
                  exact cg_105 pc
                · obtain rfl : k = 106 := by omega
                  exact cg_106 pc
          · by_cases h110 : k < 110
            · by_cases h108 : k < 108
              · obtain rfl : k = 107 := by omega
                exact cg_107 pc
              · by_cases h109 : k < 109
                · obtain rfl : k = 108 := by omega
                  exact cg_108 pc
                · obtain rfl : k = 109 := by omega
                  exact cg_109 pc
            · by_cases h111 : k < 111
              · obtain rfl : k = 110 := by omega
                exact cg_110 pc
              · by_cases h112 : k < 112
                · obtain rfl : k = 111 := by omega
                  exact cg_111 pc
                · obtain rfl : k = 112 := by omega
                  exact cg_112 pc
        · by_cases h119 : k < 119
          · by_cases h116 : k < 116
            · by_cases h114 : k < 114
              · obtain rfl : k = 113 := by omega
                exact cg_113 pc
              · by_cases h115 : k < 115
                · obtain rfl : k = 114 := by omega
                  exact cg_114 pc
                · obtain rfl : k = 115 := by omega
                  exact cg_115 pc
            · by_cases h117 : k < 117
              · obtain rfl : k = 116 := by omega
                exact cg_116 pc
              · by_cases h118 : k < 118
                · obtain rfl : k = 117 := by omega
                  exact cg_117 pc
                · obtain rfl : k = 118 := by omega
                  exact cg_118 pc
          · by_cases h122 : k < 122
            · by_cases h120 : k < 120
              · obtain rfl : k = 119 := by omega
                exact cg_119 pc
              · by_cases h121 : k < 121
                · obtain rfl : k = 120 := by omega
                  exact cg_120 pc
                · obtain rfl : k = 121 := by omega
                  exact cg_121 pc
            · by_cases h124 : k < 124
              · by_cases h123 : k < 123
                · obtain rfl : k = 122 := by omega
                  exact cg_122 pc
                · obtain rfl : k = 123 := by omega
                  exact cg_123 pc
              · by_cases h125 : k < 125
                · obtain rfl : k = 124 := by omega
                  exact cg_124 pc
                · obtain rfl : k = 125 := by omega
                  exact cg_125 pc
      · by_cases h139 : k < 139
        · by_cases h132 : k < 132
          · by_cases h129 : k < 129
            · by_cases h127 : k < 127
              · obtain rfl : k = 126 := by omega
                exact cg_126 pc
              · by_cases h128 : k < 128
                · obtain rfl : k = 127 := by omega
                  exact cg_127 pc
                · obtain rfl : k = 128 := by omega
                  exact cg_128 pc
            · by_cases h130 : k < 130
              · obtain rfl : k = 129 := by omega
                exact cg_129 pc
              · by_cases h131 : k < 131
                · obtain rfl : k = 130 := by omega
                  exact cg_130 pc
                · obtain rfl : k = 131 := by omega
                  exact cg_131 pc
          · by_cases h135 : k < 135
            · by_cases h133 : k < 133
              · obtain rfl : k = 132 := by omega
                exact cg_132 pc
              · by_cases h134 : k < 134
                · obtain rfl : k = 133 := by omega
                  exact cg_133 pc
                · obtain rfl : k = 134 := by omega
                  exact cg_134 pc
            · by_cases h137 : k < 137
              · by_cases h136 : k < 136
                · obtain rfl : k = 135 := by omega
                  exact cg_135 pc
                · obtain rfl : k = 136 := by omega
                  exact cg_136 pc
              · by_cases h138 : k < 138
                · obtain rfl : k = 137 := by omega
                  exact cg_137 pc
                · obtain rfl : k = 138 := by omega
                  exact cg_138 pc
        · by_cases h145 : k < 145
          · by_cases h142 : k < 142
            · by_cases h140 : k < 140
              · obtain rfl : k = 139 := by omega
                exact cg_139 pc
              · by_cases h141 : k < 141
                · obtain rfl : k = 140 := by omega
                  exact cg_140 pc
                · obtain rfl : k = 141 := by omega
                  exact cg_141 pc
            · by_cases h143 : k < 143
              · obtain rfl : k = 142 := by omega
                exact cg_142 pc
              · by_cases h144 : k < 144
                · obtain rfl : k = 143 := by omega
                  exact cg_143 pc
                · obtain rfl : k = 144 := by omega
                  exact cg_144 pc
          · by_cases h148 : k < 148
            · by_cases h146 : k < 146
              · obtain rfl : k = 145 := by omega
                exact cg_145 pc
              · by_cases h147 : k < 147
                · obtain rfl : k = 146 := by omega
                  exact cg_146 pc
                · obtain rfl : k = 147 := by omega
                  exact cg_147 pc
            · by_cases h150 : k < 150
              · by_cases h149 : k < 149
                · obtain rfl : k = 148 := by omega
                  exact cg_148 pc
                · obtain rfl : k = 149 := by omega
                  exact cg_149 pc
              · by_cases h151 : k < 151
                · obtain rfl : k = 150 := by omega
                  exact cg_150 pc
                · obtain rfl : k = 151 := by omega
                  exact cg_151 pc
    · by_cases h177 : k < 177
      · by_cases h164 : k < 164
        · by_cases h158 : k < 158
          · by_cases h155 : k < 155
            · by_cases h153 : k < 153
              · obtain rfl : k = 152 := by omega
                exact cg_152 pc
              · by_cases h154 : k < 154
                · obtain rfl : k = 153 := by omega
                  exact cg_153 pc
                · obtain rfl : k = 154 := by omega
                  exact cg_154 pc
            · by_cases h156 : k < 156
              · obtain rfl : k = 155 := by omega
                exact cg_155 pc
              · by_cases h157 : k < 157
                · obtain rfl : k = 156 := by omega
                  exact cg_156 pc
                · obtain rfl : k = 157 := by omega
                  exact cg_157 pc
          · by_cases h161 : k < 161
            · by_cases h159 : k < 159
              · obtain rfl : k = 158 := by omega
                exact cg_158 pc
              · by_cases h160 : k < 160
                · obtain rfl : k = 159 := by omega
                  exact cg_159 pc
                · obtain rfl : k = 160 := by omega
                  exact cg_160 pc
            · by_cases h162 : k < 162
              · obtain rfl : k = 161 := by omega
                exact cg_161 pc
              · by_cases h163 : k < 163
                · obtain rfl : k = 162 := by omega
                  exact cg_162 pc
                · obtain rfl : k = 163 := by omega
                  exact cg_163 pc
        · by_cases h170 : k < 170
          · by_cases h167 : k < 167
            · by_cases h165 : k < 165
              · obtain rfl : k = 164 := by omega
                exact cg_164 pc
              · by_cases h166 : k < 166
                · obtain rfl : k = 165 := by omega
                  exact cg_165 pc
                · obtain rfl : k = 166 := by omega
                  exact cg_166 pc
            · by_cases h168 : k < 168
              · obtain rfl : k = 167 := by omega
                exact cg_167 pc
              · by_cases h169 : k < 169
                · obtain rfl : k = 168 := by omega
                  exact cg_168 pc
                · obtain rfl : k = 169 := by omega
                  exact cg_169 pc
          · by_cases h173 : k < 173
            · by_cases h171 : k < 171
              · obtain rfl : k = 170 := by omega
                exact cg_170 pc
              · by_cases h172 : k < 172
                · obtain rfl : k = 171 := by omega
                  exact cg_171 pc
                · obtain rfl : k = 172 := by omega
                  exact cg_172 pc
            · by_cases h175 : k < 175
              · by_cases h174 : k < 174
                · obtain rfl : k = 173 := by omega
                  exact cg_173 pc
                · obtain rfl : k = 174 := by omega
                  exact cg_174 pc
              · by_cases h176 : k < 176
                · obtain rfl : k = 175 := by omega
                  exact cg_175 pc
                · obtain rfl : k = 176 := by omega
                  exact cg_176 pc
      · by_cases h190 : k < 190
        · by_cases h183 : k < 183
          · by_cases h180 : k < 180
            · by_cases h178 : k < 178
              · obtain rfl : k = 177 := by omega
                exact cg_177 pc
              · by_cases h179 : k < 179
                · obtain rfl : k = 178 := by omega
                  exact cg_178 pc
                · obtain rfl : k = 179 := by omega
                  exact cg_179 pc
            · by_cases h181 : k < 181
              · obtain rfl : k = 180 := by omega
                exact cg_180 pc
              · by_cases h182 : k < 182
                · obtain rfl : k = 181 := by omega
                  exact cg_181 pc
                · obtain rfl : k = 182 := by omega
                  exact cg_182 pc
          · by_cases h186 : k < 186
            · by_cases h184 : k < 184
              · obtain rfl : k = 183 := by omega
                exact cg_183 pc
              · by_cases h185 : k < 185
                · obtain rfl : k = 184 := by omega
                  exact cg_184 pc
                · obtain rfl : k = 185 := by omega
                  exact cg_185 pc
            · by_cases h188 : k < 188
              · by_cases h187 : k < 187
                · obtain rfl : k = 186 := by omega
                  exact cg_186 pc
                · obtain rfl : k = 187 := by omega
                  exact cg_187 pc
              · by_cases h189 : k < 189
                · obtain rfl : k = 188 := by omega
                  exact cg_188 pc
                · obtain rfl : k = 189 := by omega
                  exact cg_189 pc
        · by_cases h196 : k < 196
          · by_cases h193 : k < 193
            · by_cases h191 : k < 191
              · obtain rfl : k = 190 := by omega
                exact cg_190 pc
              · by_cases h192 : k < 192
                · obtain rfl : k = 191 := by omega
                  exact cg_191 pc
                · obtain rfl : k = 192 := by omega
                  exact cg_192 pc
            · by_cases h194 : k < 194
              · obtain rfl : k = 193 := by omega
                exact cg_193 pc
              · by_cases h195 : k < 195
                · obtain rfl : k = 194 := by omega
                  exact cg_194 pc
                · obtain rfl : k = 195 := by omega
                  exact cg_195 pc
          · by_cases h199 : k < 199
            · by_cases h197 : k < 197
              · obtain rfl : k = 196 := by omega
                exact cg_196 pc
              · by_cases h198 : k < 198
                · obtain rfl : k = 197 := by omega
                  exact cg_197 pc
                · obtain rfl : k = 198 := by omega
                  exact cg_198 pc
            · by_cases h201 : k < 201
              · by_cases h200 : k < 200
                · obtain rfl : k = 199 := by omega
                  exact cg_199 pc
                · obtain rfl : k = 200 := by omega
                  exact cg_200 pc
              · by_cases h202 : k < 202
                · obtain rfl : k = 201 := by omega
                  exact cg_201 pc
                · obtain rfl : k = 202 := by omega
                  exact cg_202 pc
/-- the words of a method, and what is read off its descriptor -/
def okM (k : Nat) : Bool :=
  (decide (tbW (mW k).1 = some (.code (mY k) (mB k) (mL k) (mR k))) && (mH k).isEmpty || decide (tbW (mW k).1 = some (.codeWith (mY k) (mB k) (mL k) (mR k) (mH k))) && !(mH k).isEmpty) &&
  cond (Nat.beq (mS k) 0) (decide (tbW (mW k).2.1 = some (.instanceMethod (mY k))) && (decide ((mY k).name = "<init>") || (decide (tbW (mW k).2.2.1 = some (.selects (mY k).cls (mY k) (mY k))) && Nat.blt (mK k) 13 && decide (fR (mK k) = (mY k).cls)))) (Nat.beq (mS k) 1 && decide (tbW (mW k).2.1 = some (.static (mY k)))) &&
  decide (tbW (mW k).2.2.2 = some (.initialized (mY k).cls)) && plainFor (mY k) &&
  decide ((mY k).cls ≠ "java/lang/invoke/MethodHandle" ∧ (mY k).cls ≠ "java/lang/invoke/VarHandle") &&
  decide ((parseMethodDescriptor (mY k).desc).map (fun d => d.parameters.length) = some (mN k - (1 - mS k))) && Nat.ble (1 - mS k) (mN k) && Nat.ble (mL k) 20
set_option maxRecDepth 100000 in
theorem okM_0 : (List.range' 0 8).all okM = true := by decide +kernel
set_option maxRecDepth 100000 in
theorem okM_8 : (List.range' 8 8).all okM = true := by decide +kernel
set_option maxRecDepth 100000 in
theorem okM_16 : (List.range' 16 8).all okM = true := by decide +kernel
set_option maxRecDepth 100000 in
theorem okM_24 : (List.range' 24 8).all okM = true := by decide +kernel
set_option maxRecDepth 100000 in
theorem okM_32 : (List.range' 32 8).all okM = true := by decide +kernel
set_option maxRecDepth 100000 in
theorem okM_40 : (List.range' 40 8).all okM = true := by decide +kernel
set_option maxRecDepth 100000 in
theorem okM_48 : (List.range' 48 8).all okM = true := by decide +kernel
set_option maxRecDepth 100000 in
theorem okM_56 : (List.range' 56 8).all okM = true := by decide +kernel
set_option maxRecDepth 100000 in
theorem okM_64 : (List.range' 64 8).all okM = true := by decide +kernel
set_option maxRecDepth 100000 in
theorem okM_72 : (List.range' 72 8).all okM = true := by decide +kernel
set_option maxRecDepth 100000 in
theorem okM_80 : (List.range' 80 8).all okM = true := by decide +kernel
set_option maxRecDepth 100000 in
theorem okM_88 : (List.range' 88 8).all okM = true := by decide +kernel
set_option maxRecDepth 100000 in
theorem okM_96 : (List.range' 96 8).all okM = true := by decide +kernel
set_option maxRecDepth 100000 in
theorem okM_104 : (List.range' 104 8).all okM = true := by decide +kernel
set_option maxRecDepth 100000 in
theorem okM_112 : (List.range' 112 8).all okM = true := by decide +kernel
set_option maxRecDepth 100000 in
theorem okM_120 : (List.range' 120 8).all okM = true := by decide +kernel
set_option maxRecDepth 100000 in
theorem okM_128 : (List.range' 128 8).all okM = true := by decide +kernel
set_option maxRecDepth 100000 in
theorem okM_136 : (List.range' 136 8).all okM = true := by decide +kernel
set_option maxRecDepth 100000 in
theorem okM_144 : (List.range' 144 8).all okM = true := by decide +kernel
set_option maxRecDepth 100000 in
theorem okM_152 : (List.range' 152 8).all okM = true := by decide +kernel
set_option maxRecDepth 100000 in
theorem okM_160 : (List.range' 160 8).all okM = true := by decide +kernel
set_option maxRecDepth 100000 in
theorem okM_168 : (List.range' 168 8).all okM = true := by decide +kernel
set_option maxRecDepth 100000 in
theorem okM_176 : (List.range' 176 8).all okM = true := by decide +kernel
set_option maxRecDepth 100000 in
theorem okM_184 : (List.range' 184 8).all okM = true := by decide +kernel
set_option maxRecDepth 100000 in
theorem okM_192 : (List.range' 192 8).all okM = true := by decide +kernel
set_option maxRecDepth 100000 in
theorem okM_200 : (List.range' 200 2).all okM = true := by decide +kernel
theorem okM_all (k : Nat) (hk : k < 202) : okM k = true := by
  by_cases h0 : k < 8
  · exact all_range 0 8 okM_0 k (by omega) (by omega)
  by_cases h8 : k < 16
  · exact all_range 8 8 okM_8 k (by omega) (by omega)
  by_cases h16 : k < 24
  · exact all_range 16 8 okM_16 k (by omega) (by omega)
  by_cases h24 : k < 32
  · exact all_range 24 8 okM_24 k (by omega) (by omega)
  by_cases h32 : k < 40
  · exact all_range 32 8 okM_32 k (by omega) (by omega)
  by_cases h40 : k < 48
  · exact all_range 40 8 okM_40 k (by omega) (by omega)
  by_cases h48 : k < 56
  · exact all_range 48 8 okM_48 k (by omega) (by omega)
  by_cases h56 : k < 64
  · exact all_range 56 8 okM_56 k (by omega) (by omega)
  by_cases h64 : k < 72
  · exact all_range 64 8 okM_64 k (by omega) (by omega)
  by_cases h72 : k < 80
  · exact all_range 72 8 okM_72 k (by omega) (by omega)
  by_cases h80 : k < 88
  · exact all_range 80 8 okM_80 k (by omega) (by omega)
  by_cases h88 : k < 96
  · exact all_range 88 8 okM_88 k (by omega) (by omega)
  by_cases h96 : k < 104
  · exact all_range 96 8 okM_96 k (by omega) (by omega)
  by_cases h104 : k < 112
  · exact all_range 104 8 okM_104 k (by omega) (by omega)
  by_cases h112 : k < 120
  · exact all_range 112 8 okM_112 k (by omega) (by omega)
  by_cases h120 : k < 128
  · exact all_range 120 8 okM_120 k (by omega) (by omega)
  by_cases h128 : k < 136
  · exact all_range 128 8 okM_128 k (by omega) (by omega)
  by_cases h136 : k < 144
  · exact all_range 136 8 okM_136 k (by omega) (by omega)
  by_cases h144 : k < 152
  · exact all_range 144 8 okM_144 k (by omega) (by omega)
  by_cases h152 : k < 160
  · exact all_range 152 8 okM_152 k (by omega) (by omega)
  by_cases h160 : k < 168
  · exact all_range 160 8 okM_160 k (by omega) (by omega)
  by_cases h168 : k < 176
  · exact all_range 168 8 okM_168 k (by omega) (by omega)
  by_cases h176 : k < 184
  · exact all_range 176 8 okM_176 k (by omega) (by omega)
  by_cases h184 : k < 192
  · exact all_range 184 8 okM_184 k (by omega) (by omega)
  by_cases h192 : k < 200
  · exact all_range 192 8 okM_192 k (by omega) (by omega)
  by_cases h200 : k < 202
  · exact all_range 200 2 okM_200 k (by omega) (by omega)
  omega
end
section
/-! what the cells of my interpreter are in the machine of the Statement -/
def rv (ad : Nat → Nat) (v : Value) : Value := match v with
  | .ref k => .ref (ad k)
  | w => w
def kTy (k : Nat) : FieldType := match k with
  | 100 => .int | 101 => .byte | 102 => .long | _ => .array .int
def elt (M : Mem) (k x j : Nat) : Value := match k with
  | 102 => .long (M.2.1 x j)
  | 103 => M.2.2.1 x j
  | _ => .int (M.1 x j)
def objAt (ad : Nat → Nat) (dC : Nat → ClassId) (dI : Nat → Nat → Nat) (M : Mem) (k x : Nat) (H : Heap) : Prop :=
  ∃ cell : Cell, H[ad x]? = some cell ∧ cell.cls = dC k ∧ cell.vm ≠ .unknown ∧ cell.vm.isStatics = false ∧ (nOld ≤ x → cell.vm = .none) ∧ ∀ j, j < fN k → cell.slots[dI k j]? = some (rv ad (fld M k x j))
def arrAt (s0 : State) (ad : Nat → Nat) (M : Mem) (k n x : Nat) (H : Heap) : Prop :=
  ∃ cell : Cell, H[ad x]? = some cell ∧ s0.isArrayOf cell (kTy k) ∧ cell.vm ≠ .unknown ∧ cell.slots.size = n ∧ ∀ j, j < n → cell.slots[j]? = some (rv ad (elt M k x j))
def WR (s0 : State) (ad : Nat → Nat) (dC : Nat → ClassId) (dI : Nat → Nat → Nat) (M : Mem) (H : Heap) : Prop :=
  (nOld ≤ M.2.2.2.length ∧ M.2.2.2.length ≤ 1000 ∧ H.size + nOld = s0.heap.size + M.2.2.2.length) ∧ (∀ q, q < s0.heap.size → H[q]? = s0.heap[q]?) ∧
  (∀ x k n, M.2.2.2[x]? = some (k, n) → (k < 13 → objAt ad dC dI M k x H) ∧ (100 ≤ k → k ≤ 103 → arrAt s0 ad M k n x H)) ∧
  (∀ x, M.2.2.2.length ≤ x → ∀ j, M.1 x j = 0 ∧ M.2.1 x j = 0 ∧ M.2.2.1 x j = .null) ∧
  (∀ x k n, 15 ≤ x → x < nOld → M.2.2.2[x]? = some (k, n) → k = 99)
def Base (p : Program) (s0 : State) (a0 : Array Value) (dC : Nat → ClassId) (dI : Nat → Nat → Nat) (ad : Nat → Nat) (sv : Nat → Value) : Prop :=
  p.tables.exec = Jvm.exec ∧ (∀ w ∈ lw_tbl, w.before a0 s0 = true) ∧
  (∀ k, k < 12 → u_Kn s0 (fR k) (fT k) (fN k) (dC k) (dI k)) ∧
  (s0.vm.findClass "java/lang/String" = some (dC 12) ∧ ∀ j, j < 2 → ∃ cf kf fi fd, s0.fieldFound? (TS j).1 (TS j).2.1 (TS j).2.2.1 = some (cf, kf, fi, fd) ∧ fd.slot = dI 12 j ∧ fd.isStatic = false) ∧
  ((∀ k, nOld ≤ k → ad k = s0.heap.size + (k - nOld)) ∧ ∀ k, k < 15 → ad k < s0.heap.size) ∧
  (∀ (own : String) (idx b : Nat), Cond.stringRef own idx (tx7 b) ∈ lw_tbl → b < 7 → vk_R own idx (tx7 b) (ad b) s0) ∧
  (∀ a, a < 4 → va_Z (st4 a).1 (st4 a).2.1 (st4 a).2.2 (rv ad (sv a)) (fun q => s0.heap.size ≤ q) s0 s0.heap)
theorem ff_moved {u E : State} {C f d : String} {cf fi : Nat} {kf : Class} {fd : Field} (hvm : u.vm.Alike E.vm) (hi : u.fieldFound? C f d = some (cf, kf, fi, fd)) : ∃ kf', E.fieldFound? C f d = some (cf, kf', fi, fd) := by
  obtain ⟨kf', hi', -⟩ := State.fieldFound?_setVm (s := u) hvm hi
  exact ⟨kf', by simpa only [State.fieldFound?, State.vm_setVm] using hi'⟩
section BW
variable {p : Program} {s0 s : State} {a0 args : Array Value} {dC : Nat → ClassId} {dI : Nat → Nat → Nat} {ad : Nat → Nat} {sv : Nat → Value}
/-- a word of the tables, wherever a call of the law's run stands -/
theorem wd (B : Base p s0 a0 dC dI ad sv) (hW : s0.WarmedH s.vm) {w : Cond} (hm : w ∈ lw_tbl) (hg : (w.onTables && w.keeps) = true) : w.before args s = true := word_at hW (Or.inl hg) (B.2.1 w hm)
theorem wdA (B : Base p s0 a0 dC dI ad sv) (hW : s0.WarmedH s.vm) {ty : FieldType} (hm : Cond.arrayClass ty ∈ lw_tbl) : (Cond.arrayClass ty).before args s = true := word_at hW (Or.inr ⟨ty, rfl⟩) (B.2.1 _ hm)
theorem wdF (B : Base p s0 a0 dC dI ad sv) (hW : s0.WarmedH s.vm) {a : String} {i : Nat} {b n d h : String} (hm : Cond.fieldLinkNest a i b n d h ∈ lw_tbl) : (Cond.fieldLinkNest a i b n d h).before args s = true :=
  va_Nw.use rfl (va_Nw.warmF hW (va_Nw.of rfl (B.2.1 _ hm)))
theorem wdM (B : Base p s0 a0 dC dI ad sv) (hW : s0.WarmedH s.vm) {a : String} {i : Nat} {x : MethodName} {h : String} (hm : Cond.methodLinkNest a i x h ∈ lw_tbl) : (Cond.methodLinkNest a i x h).before args s = true :=
  va_Nw.use rfl (va_Nw.warmM hW (va_Nw.of rfl (B.2.1 _ hm)))
theorem wdK (B : Base p s0 a0 dC dI ad sv) (hW : s0.WarmedH s.vm) {k : Nat} (hk : k < 12) : u_Kn s (fR k) (fT k) (fN k) (dC k) (dI k) := u_Kn_moved hW.alike (B.2.2.1 k hk)
/-- a field of a kind of the table -/
theorem wdFd (B : Base p s0 a0 dC dI ad sv) (hW : s0.WarmedH s.vm) (hlay : ∀ k, k < 12 → ∀ w ∈ u_ws (fR k) (fT k) (fN k), w ∈ lw_tbl) {k j : Nat} (hk : k < 13) (hj : j < fN k) :
    ∃ cf kf fi fd, s.fieldFound? (fT k j).1 (fT k j).2.1 (fT k j).2.2.1 = some (cf, kf, fi, fd) ∧ fd.slot = dI k j ∧ fd.isStatic = false := by
  by_cases h12 : k < 12
  · obtain ⟨hS, hfc, kC, hkC, hkind⟩ := B.2.2.1 k h12
    obtain ⟨cf, kf, fi, fd, hi, hsl⟩ := hS j hj
    have hst := (u_facts hfc hkC (u_lays B.2.1 (hlay k h12) hj) hi).1
    obtain ⟨kf', hi'⟩ := ff_moved hW.alike hi
    exact ⟨cf, kf', fi, fd, hi', hsl, hst⟩
  · obtain rfl : k = 12 := by omega
    obtain ⟨cf, kf, fi, fd, hi, hsl, hst⟩ := B.2.2.2.1.2 j hj
    obtain ⟨kf', hi'⟩ := ff_moved hW.alike hi
    exact ⟨cf, kf', fi, fd, hi', hsl, hst⟩
end BW

section WU
variable {s0 : State} {dC : Nat → ClassId} {dI : Nat → Nat → Nat} {ad : Nat → Nat} {M M' : Mem} {H H' : Heap}
theorem fld_same {M M' : Mem} {k x j : Nat} (h : M'.1 x j = M.1 x j ∧ M'.2.1 x j = M.2.1 x j ∧ M'.2.2.1 x j = M.2.2.1 x j) : fld M' k x j = fld M k x j := by
  unfold fld
  rw [h.1, h.2.1, h.2.2]
theorem elt_same {M M' : Mem} {k x j : Nat} (h : M'.1 x j = M.1 x j ∧ M'.2.1 x j = M.2.1 x j ∧ M'.2.2.1 x j = M.2.2.1 x j) : elt M' k x j = elt M k x j := by
  unfold elt
  rw [h.1, h.2.1, h.2.2]
/-- one cell is written -/
theorem WR.put (had : (∀ k, nOld ≤ k → ad k = s0.heap.size + (k - nOld)) ∧ ∀ k, k < 15 → ad k < s0.heap.size) (h : WR s0 ad dC dI M H) {x kx nx : Nat} (hx : M.2.2.2[x]? = some (kx, nx)) (hn : nOld ≤ x)
    (hs : M'.2.2.2 = M.2.2.2) (hoff : ∀ y, y ≠ x → ∀ j, M'.1 y j = M.1 y j ∧ M'.2.1 y j = M.2.1 y j ∧ M'.2.2.1 y j = M.2.2.1 y j) (hsz : H'.size = H.size) (hq : ∀ q, q ≠ ad x → H'[q]? = H[q]?)
    (ho : kx < 13 → objAt ad dC dI M' kx x H') (ha : 100 ≤ kx → kx ≤ 103 → arrAt s0 ad M' kx nx x H') : WR s0 ad dC dI M' H' := by
  obtain ⟨⟨h1, h2, h3⟩, h4, h5, h6, h7⟩ := h
  have hadx := had.1 x hn
  have hxl : x < M.2.2.2.length := (List.getElem?_eq_some_iff.mp hx).1
  have hne : ∀ y k n, M.2.2.2[y]? = some (k, n) → (k < 13 ∨ 100 ≤ k) → y ≠ x → ad y ≠ ad x := by
    intro y k n hy hk hyx
    rw [hadx]
    by_cases h15 : y < 15
    · have := had.2 y h15
      omega
    · by_cases hy18 : y < nOld
      · have := h7 y k n (by omega) hy18 hy
        omega
      · rw [had.1 y (by omega)]
        unfold nOld at *
        omega
  refine ⟨⟨by rw [hs]; exact h1, by rw [hs]; exact h2, by rw [hs, hsz]; exact h3⟩, ?_, ?_, ?_, ?_⟩
  · intro q hq0
    rw [hq q (by rw [hadx]; omega)]
    exact h4 q hq0
  · intro y k n hy
    rw [hs] at hy
    by_cases hyx : y = x
    · subst hyx
      have e := hx.symm.trans hy
      simp only [Option.some.injEq, Prod.mk.injEq] at e
      obtain ⟨rfl, rfl⟩ := e
      exact ⟨ho, ha⟩
    · refine ⟨fun hk => ?_, fun hk1 hk2 => ?_⟩
      · obtain ⟨cell, c1, c2, c3, c4, c5, c6⟩ := (h5 y k n hy).1 hk
        exact ⟨cell, by rw [hq _ (hne y k n hy (Or.inl hk) hyx)]; exact c1, c2, c3, c4, c5, fun j hj => by rw [fld_same (hoff y hyx j)]; exact c6 j hj⟩
      · obtain ⟨cell, c1, c2, c3, c4, c5⟩ := (h5 y k n hy).2 hk1 hk2
        exact ⟨cell, by rw [hq _ (hne y k n hy (Or.inr hk1) hyx)]; exact c1, c2, c3, c4, fun j hj => by rw [elt_same (hoff y hyx j)]; exact c5 j hj⟩
  · intro y hy j
    rw [hs] at hy
    obtain ⟨e1, e2, e3⟩ := hoff y (by omega) j
    rw [e1, e2, e3]
    exact h6 y hy j
  · intro y k n a b hy
    rw [hs] at hy
    exact h7 y k n a b hy
/-- cells are made: the old ones stay -/
theorem WR.grow (had : (∀ k, nOld ≤ k → ad k = s0.heap.size + (k - nOld)) ∧ ∀ k, k < 15 → ad k < s0.heap.size) (h : WR s0 ad dC dI M H) (l : List (Nat × Nat)) (hs : M'.2.2.2 = M.2.2.2 ++ l) (hl : M.2.2.2.length + l.length ≤ 1000)
    (hoff : ∀ y, y < M.2.2.2.length → ∀ j, M'.1 y j = M.1 y j ∧ M'.2.1 y j = M.2.1 y j ∧ M'.2.2.1 y j = M.2.2.1 y j) (hnew : ∀ y, M.2.2.2.length + l.length ≤ y → ∀ j, M'.1 y j = 0 ∧ M'.2.1 y j = 0 ∧ M'.2.2.1 y j = .null)
    (hsz : H'.size = H.size + l.length) (hq : ∀ q, q < H.size → H'[q]? = H[q]?)
    (ho : ∀ i k n, l[i]? = some (k, n) → (k < 13 → objAt ad dC dI M' k (M.2.2.2.length + i) H') ∧ (100 ≤ k → k ≤ 103 → arrAt s0 ad M' k n (M.2.2.2.length + i) H')) : WR s0 ad dC dI M' H' := by
  obtain ⟨⟨h1, h2, h3⟩, h4, h5, h6, h7⟩ := h
  refine ⟨⟨by rw [hs, List.length_append]; omega, by rw [hs, List.length_append]; exact hl, by rw [hs, List.length_append]; omega⟩, ?_, ?_, ?_, ?_⟩
  · intro q hq0
    rw [hq q (by omega)]
    exact h4 q hq0
  · intro y k n hy
    rw [hs] at hy
    by_cases hyl : y < M.2.2.2.length
    · rw [List.getElem?_append_left hyl] at hy
      refine ⟨fun hk => ?_, fun hk1 hk2 => ?_⟩
      · obtain ⟨cell, c1, c2, c3, c4, c5, c6⟩ := (h5 y k n hy).1 hk
        exact ⟨cell, by rw [hq _ (Array.getElem?_eq_some_iff.mp c1).1]; exact c1, c2, c3, c4, c5, fun j hj => by rw [fld_same (hoff y hyl j)]; exact c6 j hj⟩
      · obtain ⟨cell, c1, c2, c3, c4, c5⟩ := (h5 y k n hy).2 hk1 hk2
        exact ⟨cell, by rw [hq _ (Array.getElem?_eq_some_iff.mp c1).1]; exact c1, c2, c3, c4, fun j hj => by rw [elt_same (hoff y hyl j)]; exact c5 j hj⟩
    · rw [List.getElem?_append_right (by omega)] at hy
      have := ho _ k n hy
      rwa [show M.2.2.2.length + (y - M.2.2.2.length) = y by omega] at this
  · intro y hy j
    rw [hs, List.length_append] at hy
    exact hnew y hy j
  · intro y k n a b hy
    rw [hs, List.getElem?_append_left (by omega)] at hy
    exact h7 y k n a b hy
end WU
end
section
/-! the variables of a frame -/
def lvF (ad : Nat → Nat) : Nat → Loc1 → List (Nat × Value)
  | _, [] => []
  | i, none :: L => lvF ad (i + 1) L
  | i, some v :: L => (i, rv ad v) :: lvF ad (i + 1) L
def LR (ad : Nat → Nat) (L : Loc1) (ls : Array Slot) : Prop := lv_has ls L.length (lvF ad 0 L)
theorem lvF_mem {ad : Nat → Nat} : ∀ (L : Loc1) (i : Nat) (q : Nat × Value), q ∈ lvF ad i L ↔ ∃ j v, L[j]? = some (some v) ∧ q = (i + j, rv ad v)
  | [], i, q => by simp [lvF]
  | none :: L, i, q => by
    rw [lvF, lvF_mem L (i + 1) q]
    constructor
    · rintro ⟨j, v, h, e⟩
      exact ⟨j + 1, v, by simpa using h, by rw [e]; simp; omega⟩
    · rintro ⟨j, v, h, e⟩
      cases j with
      | zero => simp at h
      | succ j => exact ⟨j, v, by simpa using h, by rw [e]; simp; omega⟩
  | some w :: L, i, q => by
    rw [lvF, List.mem_cons, lvF_mem L (i + 1) q]
    constructor
    · rintro (rfl | ⟨j, v, h, e⟩)
      · exact ⟨0, w, rfl, rfl⟩
      · exact ⟨j + 1, v, by simpa using h, by rw [e]; simp; omega⟩
    · rintro ⟨j, v, h, e⟩
      cases j with
      | zero =>
        left
        simp at h
        rw [e, h]
        rfl
      | succ j => exact Or.inr ⟨j, v, by simpa using h, by rw [e]; simp; omega⟩
theorem LR.at {ad : Nat → Nat} {L : Loc1} {ls : Array Slot} (h : LR ad L ls) {n : Nat} {v : Value} (hv : L[n]? = some (some v)) : ls[n]? = some (.val (rv ad v)) :=
  h.2.2 (n, rv ad v) ((lvF_mem L 0 _).mpr ⟨n, v, hv, by simp⟩)
theorem rv_cat (ad : Nat → Nat) (v : Value) : (rv ad v).category = v.category := by cases v <;> rfl
theorem setV1_len : ∀ (L : Loc1) (n : Nat) (v : Value), (setV1 L n v).length = L.length := by
  intro L
  induction L with
  | nil => intro n v; simp [setV1]
  | cons x L ih =>
    intro n v
    match n with
    | 0 => simp [setV1]
    | 1 => 
      rcases x with _ | (_ | _ | _ | _ | _ | _ | _) <;> simp [setV1, ih]
    | n + 2 => 
      rcases x with _ | (_ | _ | _ | _ | _ | _ | _) <;> simp [setV1, ih]
theorem setV1_at : ∀ (L : Loc1) (n : Nat) (v : Value) (j : Nat) (w : Value), (setV1 L n v)[j]? = some (some w) → (j = n ∧ w = v) ∨ (j ≠ n ∧ L[j]? = some (some w) ∧ ¬ (j + 1 = n ∧ w.category = 2)) := by
  intro L
  induction L with
  | nil => intro n v j w h; simp [setV1] at h
  | cons x L ih =>
    intro n v j w h
    match n, j with
    | 0, 0 => simp [setV1] at h; exact Or.inl ⟨rfl, h.symm⟩
    | 0, j + 1 => simp [setV1] at h; exact Or.inr ⟨by omega, by simpa using h, by omega⟩
    | 1, 0 =>
      right
      refine ⟨by omega, ?_⟩
      rcases x with _ | (_ | _ | _ | _ | _ | _ | _) <;> simp [setV1] at h <;> subst h <;> simp [Value.category]
    | 1, j + 1 =>
      have h' : (setV1 L 0 v)[j]? = some (some w) := by
        rcases x with _ | (_ | _ | _ | _ | _ | _ | _) <;> simpa [setV1] using h
      rcases ih 0 v j w h' with ⟨e1, e2⟩ | ⟨e1, e2, e3⟩
      · exact Or.inl ⟨by omega, e2⟩
      · exact Or.inr ⟨by omega, by simpa using e2, by omega⟩
    | n + 2, 0 =>
      right
      refine ⟨by omega, ?_, by omega⟩
      rcases x with _ | (_ | _ | _ | _ | _ | _ | _) <;> simpa [setV1] using h
    | n + 2, j + 1 =>
      have h' : (setV1 L (n + 1) v)[j]? = some (some w) := by
        rcases x with _ | (_ | _ | _ | _ | _ | _ | _) <;> simpa [setV1] using h
      rcases ih (n + 1) v j w h' with ⟨e1, e2⟩ | ⟨e1, e2, e3⟩
      · exact Or.inl ⟨by omega, e2⟩
      · exact Or.inr ⟨by omega, by simpa using e2, by omega⟩
theorem setV2_len : ∀ (L : Loc1) (n : Nat) (v : Value), (setV2 L n v).length = L.length := by
  intro L
  induction L with
  | nil => intro n v; simp [setV2]
  | cons x L ih =>
    intro n v
    match n with
    | 0 => cases L <;> simp [setV2]
    | 1 => 
      rcases x with _ | (_ | _ | _ | _ | _ | _ | _) <;> simp [setV2, ih]
    | n + 2 => 
      rcases x with _ | (_ | _ | _ | _ | _ | _ | _) <;> simp [setV2, ih]
theorem setV2_at : ∀ (L : Loc1) (n : Nat) (v : Value) (j : Nat) (w : Value), (setV2 L n v)[j]? = some (some w) → (j = n ∧ w = v) ∨ (j ≠ n ∧ j ≠ n + 1 ∧ L[j]? = some (some w) ∧ ¬ (j + 1 = n ∧ w.category = 2)) := by
  intro L
  induction L with
  | nil => intro n v j w h; simp [setV2] at h
  | cons x L ih =>
    intro n v j w h
    match n, j with
    | 0, 0 => cases L <;> simp [setV2] at h <;> exact Or.inl ⟨rfl, h.symm⟩
    | 0, 1 => cases L <;> simp [setV2] at h
    | 0, j + 2 =>
      cases L with
      | nil => simp [setV2] at h
      | cons y L => simp [setV2] at h; exact Or.inr ⟨by omega, by omega, by simpa using h, by omega⟩
    | 1, 0 =>
      right
      refine ⟨by omega, by omega, ?_⟩
      rcases x with _ | (_ | _ | _ | _ | _ | _ | _) <;> simp [setV2] at h <;> subst h <;> simp [Value.category]
    | 1, j + 1 =>
      have h' : (setV2 L 0 v)[j]? = some (some w) := by
        rcases x with _ | (_ | _ | _ | _ | _ | _ | _) <;> simpa [setV2] using h
      rcases ih 0 v j w h' with ⟨e1, e2⟩ | ⟨e1, e4, e2, e3⟩
      · exact Or.inl ⟨by omega, e2⟩
      · exact Or.inr ⟨by omega, by omega, by simpa using e2, by omega⟩
    | n + 2, 0 =>
      right
      refine ⟨by omega, by omega, ?_, by omega⟩
      rcases x with _ | (_ | _ | _ | _ | _ | _ | _) <;> simpa [setV2] using h
    | n + 2, j + 1 =>
      have h' : (setV2 L (n + 1) v)[j]? = some (some w) := by
        rcases x with _ | (_ | _ | _ | _ | _ | _ | _) <;> simpa [setV2] using h
      rcases ih (n + 1) v j w h' with ⟨e1, e2⟩ | ⟨e1, e4, e2, e3⟩
      · exact Or.inl ⟨by omega, e2⟩
      · exact Or.inr ⟨by omega, by omega, by simpa using e2, by omega⟩
theorem LR.set1 {ad : Nat → Nat} {L : Loc1} {ls' : Array Slot} {n : Nat} {v : Value} (h : lv_has ls' L.length ((n, rv ad v) :: (lvF ad 0 L).filter (fun q => !(q.1 == n) && !(q.1 + 1 == n && q.2.category == 2)))) : LR ad (setV1 L n v) ls' := by
  refine ⟨by rw [setV1_len]; exact h.1, h.2.1, fun q hq => ?_⟩
  obtain ⟨j, w, hj, rfl⟩ := (lvF_mem _ 0 q).mp hq
  refine h.2.2 _ ?_
  rcases setV1_at L n v j w hj with ⟨rfl, rfl⟩ | ⟨e1, e2, e3⟩
  · simp
  · refine List.mem_cons_of_mem _ (List.mem_filter.mpr ⟨(lvF_mem L 0 _).mpr ⟨j, w, e2, rfl⟩, ?_⟩)
    simp only [rv_cat, Nat.zero_add]
    simp [e1, e3]
    omega
theorem LR.set2 {ad : Nat → Nat} {L : Loc1} {ls' : Array Slot} {n : Nat} {v : Value} (h : lv_has ls' L.length ((n, rv ad v) :: (lvF ad 0 L).filter (fun q => !(q.1 == n) && (!(q.1 == n + 1) && !(q.1 + 1 == n && q.2.category == 2))))) : LR ad (setV2 L n v) ls' := by
  refine ⟨by rw [setV2_len]; exact h.1, h.2.1, fun q hq => ?_⟩
  obtain ⟨j, w, hj, rfl⟩ := (lvF_mem _ 0 q).mp hq
  refine h.2.2 _ ?_
  rcases setV2_at L n v j w hj with ⟨rfl, rfl⟩ | ⟨e1, e4, e2, e3⟩
  · simp
  · refine List.mem_cons_of_mem _ (List.mem_filter.mpr ⟨(lvF_mem L 0 _).mpr ⟨j, w, e2, rfl⟩, ?_⟩)
    simp only [rv_cat, Nat.zero_add]
    simp [e1, e4, e3]
    omega
end
section
/-! one instruction that is no call and no end -/
theorem good_of {k pc : Nat} (hk : k < nM) {i : Instr} {nx a b c : Nat} {v : Int64} (h : ri k pc = some (i, nx, a, b, c, v)) :
    decode (mB k) pc = .ok (i, nx - pc) ∧ pc ≤ nx ∧ (isSw i = true ∨ nx = pc + lenOf i) ∧ wordB (mY k).cls (mY k).name i nx a b c v pc = true := by
  have q := chk_all k hk pc
  unfold chk at q
  rw [h] at q
  simp only [Bool.and_eq_true, decide_eq_true_eq, Bool.or_eq_true, Nat.beq_eq, Nat.ble_eq] at q
  exact ⟨q.1.1.1, q.1.1.2, q.1.2, q.2⟩
def FrK (k : Nat) (s : State) (m : MethodId) (meth : Method) (c : Code) : Prop :=
  c.code = mB k ∧ c.maxLocals = mL k ∧ meth.sig.returnType = mR k ∧ meth.locks = false ∧ s.vm.findClass (mY k).cls = some m.cls ∧ meth.name = (mY k).name ∧ c.exceptionTable.toList.map (fun h => (h.startPc, h.endPc, h.handlerPc, h.catchType)) = mH k
def lays_ok : Prop := ∀ k, k < 12 → ∀ w ∈ u_ws (fR k) (fT k) (fN k), w ∈ lw_tbl
section ST
variable {p : Program} {l : Launch} {e : Env} {R : Room} {s : State} {m : MethodId} {args : Array Value} {below : List Frame} {meth : Method} {c : Code} {H : Heap} {locs : List Loc} {cells : Nat} {Q : State → Prop}
variable {s0 : State} {a0 : Array Value} {dC : Nat → ClassId} {dI : Nat → Nat → Nat} {ad : Nat → Nat} {sv : Nat → Value}
/-- from here on, for every heap and every frame that my interpreter's state describes -/
def Go (p : Program) (l : Launch) (e : Env) (R : Room) (s : State) (m : MethodId) (args : Array Value) (below : List Frame) (meth : Method) (c : Code) (Q : State → Prop) (s0 : State) (ad : Nat → Nat) (dC : Nat → ClassId) (dI : Nat → Nat → Nat) (b0 pc : Nat) (L : Loc1) (S : List Value) (M : Mem) : Prop :=
  ∀ (H : Heap) (locs : List Loc) (cells : Nat) (ls : Array Slot), LR ad L ls → WR s0 ad dC dI M H → (∀ q ∈ locs, s0.heap.size ≤ q.base) → cells + b0 = M.2.2.2.length → W p l e R s m args below meth c H locs cells (1000 * cells) Q (F0 m pc ls (S.map (rv ad)))
def RmC (R : Room) (b0 : Nat) : Prop := 1000 ≤ R.cells + b0 ∧ 1000000 ≤ R.slots + 1000 * b0

theorem sim_iload {n : Nat} {k pc nx a b c1 b0 pc' : Nat} {v : Int64} {L L' : Loc1} {S S' : List Value} {M M' : Mem} (B : Base p s0 a0 dC dI ad sv) (hW : s0.WarmedH s.vm) (hF : FrK k s m meth c) (hk : k < nM) (hri : ri k pc = some (.iload n, nx, a, b, c1, v)) (h : stp sv (.iload n) nx a b v pc L S M = some (pc', L', S', M'))
    (kk : Go p l e R s m args below meth c Q s0 ad dC dI b0 pc' L' S' M') : Go p l e R s m args below meth c Q s0 ad dC dI b0 pc L S M := by
  obtain ⟨hd, hle, hsw, hw⟩ := good_of hk hri
  obtain rfl : nx = pc + 2 := by simpa [isSw, lenOf] using hsw
  have hd : decode (mB k) pc = .ok (.iload n, 2) := by simpa using hd
  have hx0 := B.1
  have hb := hF.1
  have hown := hF.2.2.2.2.1
  · simp only [stp, sLdI] at h
    split at h
    · rename_i x hx
      simp only [Option.some.injEq, Prod.mk.injEq] at h
      obtain ⟨rfl, rfl, rfl, rfl⟩ := h
      intro H locs cells ls hL hM hq hc
      refine lv_iload hx0 hb hd (hL.at hx) ?_
      exact kk H locs cells ls hL hM hq hc
    · cases h
theorem sim_iload_n {n : Fin 4} {k pc nx a b c1 b0 pc' : Nat} {v : Int64} {L L' : Loc1} {S S' : List Value} {M M' : Mem} (B : Base p s0 a0 dC dI ad sv) (hW : s0.WarmedH s.vm) (hF : FrK k s m meth c) (hk : k < nM) (hri : ri k pc = some (.iload_n n, nx, a, b, c1, v)) (h : stp sv (.iload_n n) nx a b v pc L S M = some (pc', L', S', M'))
    (kk : Go p l e R s m args below meth c Q s0 ad dC dI b0 pc' L' S' M') : Go p l e R s m args below meth c Q s0 ad dC dI b0 pc L S M := by
  obtain ⟨hd, hle, hsw, hw⟩ := good_of hk hri
  obtain rfl : nx = pc + 1 := by simpa [isSw, lenOf] using hsw
  have hd : decode (mB k) pc = .ok (.iload_n n, 1) := by simpa using hd
  have hx0 := B.1
  have hb := hF.1
  have hown := hF.2.2.2.2.1
  · simp only [stp, sLdI] at h
    split at h
    · rename_i x hx
      simp only [Option.some.injEq, Prod.mk.injEq] at h
      obtain ⟨rfl, rfl, rfl, rfl⟩ := h
      intro H locs cells ls hL hM hq hc
      refine lv_iload_n hx0 hb hd rfl (hL.at hx) ?_
      exact kk H locs cells ls hL hM hq hc
    · cases h
theorem sim_lload {n : Nat} {k pc nx a b c1 b0 pc' : Nat} {v : Int64} {L L' : Loc1} {S S' : List Value} {M M' : Mem} (B : Base p s0 a0 dC dI ad sv) (hW : s0.WarmedH s.vm) (hF : FrK k s m meth c) (hk : k < nM) (hri : ri k pc = some (.lload n, nx, a, b, c1, v)) (h : stp sv (.lload n) nx a b v pc L S M = some (pc', L', S', M'))
    (kk : Go p l e R s m args below meth c Q s0 ad dC dI b0 pc' L' S' M') : Go p l e R s m args below meth c Q s0 ad dC dI b0 pc L S M := by
  obtain ⟨hd, hle, hsw, hw⟩ := good_of hk hri
  obtain rfl : nx = pc + 2 := by simpa [isSw, lenOf] using hsw
  have hd : decode (mB k) pc = .ok (.lload n, 2) := by simpa using hd
  have hx0 := B.1
  have hb := hF.1
  have hown := hF.2.2.2.2.1
  · simp only [stp, sLdL] at h
    split at h
    · rename_i x hx
      simp only [Option.some.injEq, Prod.mk.injEq] at h
      obtain ⟨rfl, rfl, rfl, rfl⟩ := h
      intro H locs cells ls hL hM hq hc
      refine lv_lload hx0 hb hd (hL.at hx) ?_
      exact kk H locs cells ls hL hM hq hc
    · cases h
theorem sim_lload_n {n : Fin 4} {k pc nx a b c1 b0 pc' : Nat} {v : Int64} {L L' : Loc1} {S S' : List Value} {M M' : Mem} (B : Base p s0 a0 dC dI ad sv) (hW : s0.WarmedH s.vm) (hF : FrK k s m meth c) (hk : k < nM) (hri : ri k pc = some (.lload_n n, nx, a, b, c1, v)) (h : stp sv (.lload_n n) nx a b v pc L S M = some (pc', L', S', M'))
    (kk : Go p l e R s m args below meth c Q s0 ad dC dI b0 pc' L' S' M') : Go p l e R s m args below meth c Q s0 ad dC dI b0 pc L S M := by
  obtain ⟨hd, hle, hsw, hw⟩ := good_of hk hri
  obtain rfl : nx = pc + 1 := by simpa [isSw, lenOf] using hsw
  have hd : decode (mB k) pc = .ok (.lload_n n, 1) := by simpa using hd
  have hx0 := B.1
  have hb := hF.1
  have hown := hF.2.2.2.2.1
  · simp only [stp, sLdL] at h
    split at h
    · rename_i x hx
      simp only [Option.some.injEq, Prod.mk.injEq] at h
      obtain ⟨rfl, rfl, rfl, rfl⟩ := h
      intro H locs cells ls hL hM hq hc
      refine lv_lload_n hx0 hb hd rfl (hL.at hx) ?_
      exact kk H locs cells ls hL hM hq hc
    · cases h
theorem sim_aload {n : Nat} {k pc nx a b c1 b0 pc' : Nat} {v : Int64} {L L' : Loc1} {S S' : List Value} {M M' : Mem} (B : Base p s0 a0 dC dI ad sv) (hW : s0.WarmedH s.vm) (hF : FrK k s m meth c) (hk : k < nM) (hri : ri k pc = some (.aload n, nx, a, b, c1, v)) (h : stp sv (.aload n) nx a b v pc L S M = some (pc', L', S', M'))
    (kk : Go p l e R s m args below meth c Q s0 ad dC dI b0 pc' L' S' M') : Go p l e R s m args below meth c Q s0 ad dC dI b0 pc L S M := by
  obtain ⟨hd, hle, hsw, hw⟩ := good_of hk hri
  obtain rfl : nx = pc + 2 := by simpa [isSw, lenOf] using hsw
  have hd : decode (mB k) pc = .ok (.aload n, 2) := by simpa using hd
  have hx0 := B.1
  have hb := hF.1
  have hown := hF.2.2.2.2.1
  · simp only [stp, sLdA] at h
    split at h
    · rename_i x hx
      simp only [Option.some.injEq, Prod.mk.injEq] at h
      obtain ⟨rfl, rfl, rfl, rfl⟩ := h
      intro H locs cells ls hL hM hq hc
      refine lv_aload hx0 hb hd (hL.at hx) ?_
      exact kk H locs cells ls hL hM hq hc
    · rename_i hx
      simp only [Option.some.injEq, Prod.mk.injEq] at h
      obtain ⟨rfl, rfl, rfl, rfl⟩ := h
      intro H locs cells ls hL hM hq hc
      refine lv_aloadN hx0 hb hd (hL.at hx) ?_
      exact kk H locs cells ls hL hM hq hc
    · cases h
theorem sim_aload_n {n : Fin 4} {k pc nx a b c1 b0 pc' : Nat} {v : Int64} {L L' : Loc1} {S S' : List Value} {M M' : Mem} (B : Base p s0 a0 dC dI ad sv) (hW : s0.WarmedH s.vm) (hF : FrK k s m meth c) (hk : k < nM) (hri : ri k pc = some (.aload_n n, nx, a, b, c1, v)) (h : stp sv (.aload_n n) nx a b v pc L S M = some (pc', L', S', M'))
    (kk : Go p l e R s m args below meth c Q s0 ad dC dI b0 pc' L' S' M') : Go p l e R s m args below meth c Q s0 ad dC dI b0 pc L S M := by
  obtain ⟨hd, hle, hsw, hw⟩ := good_of hk hri
  obtain rfl : nx = pc + 1 := by simpa [isSw, lenOf] using hsw
  have hd : decode (mB k) pc = .ok (.aload_n n, 1) := by simpa using hd
  have hx0 := B.1
  have hb := hF.1
  have hown := hF.2.2.2.2.1
  · simp only [stp, sLdA] at h
    split at h
    · rename_i x hx
      simp only [Option.some.injEq, Prod.mk.injEq] at h
      obtain ⟨rfl, rfl, rfl, rfl⟩ := h
      intro H locs cells ls hL hM hq hc
      refine lv_aload_n hx0 hb hd rfl (hL.at hx) ?_
      exact kk H locs cells ls hL hM hq hc
    · rename_i hx
      simp only [Option.some.injEq, Prod.mk.injEq] at h
      obtain ⟨rfl, rfl, rfl, rfl⟩ := h
      intro H locs cells ls hL hM hq hc
      refine lv_aload_nN hx0 hb hd rfl (hL.at hx) ?_
      exact kk H locs cells ls hL hM hq hc
    · cases h
theorem sim_istore {n : Nat} {k pc nx a b c1 b0 pc' : Nat} {v : Int64} {L L' : Loc1} {S S' : List Value} {M M' : Mem} (B : Base p s0 a0 dC dI ad sv) (hW : s0.WarmedH s.vm) (hF : FrK k s m meth c) (hk : k < nM) (hri : ri k pc = some (.istore n, nx, a, b, c1, v)) (h : stp sv (.istore n) nx a b v pc L S M = some (pc', L', S', M'))
    (kk : Go p l e R s m args below meth c Q s0 ad dC dI b0 pc' L' S' M') : Go p l e R s m args below meth c Q s0 ad dC dI b0 pc L S M := by
  obtain ⟨hd, hle, hsw, hw⟩ := good_of hk hri
  obtain rfl : nx = pc + 2 := by simpa [isSw, lenOf] using hsw
  have hd : decode (mB k) pc = .ok (.istore n, 2) := by simpa using hd
  have hx0 := B.1
  have hb := hF.1
  have hown := hF.2.2.2.2.1
  · simp only [stp, sStI] at h
    split at h
    · rename_i x S
      split at h
      · rename_i hn
        simp only [Option.some.injEq, Prod.mk.injEq] at h
        obtain ⟨rfl, rfl, rfl, rfl⟩ := h
        intro H locs cells ls hL hM hq hc
        refine lv_istore (nL := L.length) (lv := lvF ad 0 L) hx0 hb hd hL hn rfl (fun ls' hl' => ?_)
        exact kk H locs cells ls' (LR.set1 (v := .int x) hl') hM hq hc
      · cases h
    · cases h
theorem sim_istore_n {n : Fin 4} {k pc nx a b c1 b0 pc' : Nat} {v : Int64} {L L' : Loc1} {S S' : List Value} {M M' : Mem} (B : Base p s0 a0 dC dI ad sv) (hW : s0.WarmedH s.vm) (hF : FrK k s m meth c) (hk : k < nM) (hri : ri k pc = some (.istore_n n, nx, a, b, c1, v)) (h : stp sv (.istore_n n) nx a b v pc L S M = some (pc', L', S', M'))
    (kk : Go p l e R s m args below meth c Q s0 ad dC dI b0 pc' L' S' M') : Go p l e R s m args below meth c Q s0 ad dC dI b0 pc L S M := by
  obtain ⟨hd, hle, hsw, hw⟩ := good_of hk hri
  obtain rfl : nx = pc + 1 := by simpa [isSw, lenOf] using hsw
  have hd : decode (mB k) pc = .ok (.istore_n n, 1) := by simpa using hd
  have hx0 := B.1
  have hb := hF.1
  have hown := hF.2.2.2.2.1
  · simp only [stp, sStI] at h
    split at h
    · rename_i x S
      split at h
      · rename_i hn
        simp only [Option.some.injEq, Prod.mk.injEq] at h
        obtain ⟨rfl, rfl, rfl, rfl⟩ := h
        intro H locs cells ls hL hM hq hc
        refine lv_istore_n (nL := L.length) (lv := lvF ad 0 L) hx0 hb hd rfl hL hn rfl (fun ls' hl' => ?_)
        exact kk H locs cells ls' (LR.set1 (v := .int x) hl') hM hq hc
      · cases h
    · cases h
theorem sim_astore {n : Nat} {k pc nx a b c1 b0 pc' : Nat} {v : Int64} {L L' : Loc1} {S S' : List Value} {M M' : Mem} (B : Base p s0 a0 dC dI ad sv) (hW : s0.WarmedH s.vm) (hF : FrK k s m meth c) (hk : k < nM) (hri : ri k pc = some (.astore n, nx, a, b, c1, v)) (h : stp sv (.astore n) nx a b v pc L S M = some (pc', L', S', M'))
    (kk : Go p l e R s m args below meth c Q s0 ad dC dI b0 pc' L' S' M') : Go p l e R s m args below meth c Q s0 ad dC dI b0 pc L S M := by
  obtain ⟨hd, hle, hsw, hw⟩ := good_of hk hri
  obtain rfl : nx = pc + 2 := by simpa [isSw, lenOf] using hsw
  have hd : decode (mB k) pc = .ok (.astore n, 2) := by simpa using hd
  have hx0 := B.1
  have hb := hF.1
  have hown := hF.2.2.2.2.1
  · simp only [stp, sStA] at h
    split at h
    · rename_i x S
      split at h
      · rename_i hn
        simp only [Option.some.injEq, Prod.mk.injEq] at h
        obtain ⟨rfl, rfl, rfl, rfl⟩ := h
        intro H locs cells ls hL hM hq hc
        refine lv_astore (nL := L.length) (lv := lvF ad 0 L) hx0 hb hd hL hn rfl (fun ls' hl' => ?_)
        exact kk H locs cells ls' (LR.set1 (v := .ref x) hl') hM hq hc
      · cases h
    · cases h
theorem sim_astore_n {n : Fin 4} {k pc nx a b c1 b0 pc' : Nat} {v : Int64} {L L' : Loc1} {S S' : List Value} {M M' : Mem} (B : Base p s0 a0 dC dI ad sv) (hW : s0.WarmedH s.vm) (hF : FrK k s m meth c) (hk : k < nM) (hri : ri k pc = some (.astore_n n, nx, a, b, c1, v)) (h : stp sv (.astore_n n) nx a b v pc L S M = some (pc', L', S', M'))
    (kk : Go p l e R s m args below meth c Q s0 ad dC dI b0 pc' L' S' M') : Go p l e R s m args below meth c Q s0 ad dC dI b0 pc L S M := by
  obtain ⟨hd, hle, hsw, hw⟩ := good_of hk hri
  obtain rfl : nx = pc + 1 := by simpa [isSw, lenOf] using hsw
  have hd : decode (mB k) pc = .ok (.astore_n n, 1) := by simpa using hd
  have hx0 := B.1
  have hb := hF.1
  have hown := hF.2.2.2.2.1
  · simp only [stp, sStA] at h
    split at h
    · rename_i x S
      split at h
      · rename_i hn
        simp only [Option.some.injEq, Prod.mk.injEq] at h
        obtain ⟨rfl, rfl, rfl, rfl⟩ := h
        intro H locs cells ls hL hM hq hc
        refine lv_astore_n (nL := L.length) (lv := lvF ad 0 L) hx0 hb hd rfl hL hn rfl (fun ls' hl' => ?_)
        exact kk H locs cells ls' (LR.set1 (v := .ref x) hl') hM hq hc
      · cases h
    · cases h
theorem sim_lstore {n : Nat} {k pc nx a b c1 b0 pc' : Nat} {v : Int64} {L L' : Loc1} {S S' : List Value} {M M' : Mem} (B : Base p s0 a0 dC dI ad sv) (hW : s0.WarmedH s.vm) (hF : FrK k s m meth c) (hk : k < nM) (hri : ri k pc = some (.lstore n, nx, a, b, c1, v)) (h : stp sv (.lstore n) nx a b v pc L S M = some (pc', L', S', M'))
    (kk : Go p l e R s m args below meth c Q s0 ad dC dI b0 pc' L' S' M') : Go p l e R s m args below meth c Q s0 ad dC dI b0 pc L S M := by
  obtain ⟨hd, hle, hsw, hw⟩ := good_of hk hri
  obtain rfl : nx = pc + 2 := by simpa [isSw, lenOf] using hsw
  have hd : decode (mB k) pc = .ok (.lstore n, 2) := by simpa using hd
  have hx0 := B.1
  have hb := hF.1
  have hown := hF.2.2.2.2.1
  · simp only [stp, sStL] at h
    split at h
    · rename_i x S
      split at h
      · rename_i hn
        simp only [Option.some.injEq, Prod.mk.injEq] at h
        obtain ⟨rfl, rfl, rfl, rfl⟩ := h
        intro H locs cells ls hL hM hq hc
        refine lv_lstore (nL := L.length) (lv := lvF ad 0 L) hx0 hb hd hL hn rfl (fun ls' hl' => ?_)
        exact kk H locs cells ls' (LR.set2 (v := .long x) hl') hM hq hc
      · cases h
    · cases h
theorem sim_lstore_n {n : Fin 4} {k pc nx a b c1 b0 pc' : Nat} {v : Int64} {L L' : Loc1} {S S' : List Value} {M M' : Mem} (B : Base p s0 a0 dC dI ad sv) (hW : s0.WarmedH s.vm) (hF : FrK k s m meth c) (hk : k < nM) (hri : ri k pc = some (.lstore_n n, nx, a, b, c1, v)) (h : stp sv (.lstore_n n) nx a b v pc L S M = some (pc', L', S', M'))
    (kk : Go p l e R s m args below meth c Q s0 ad dC dI b0 pc' L' S' M') : Go p l e R s m args below meth c Q s0 ad dC dI b0 pc L S M := by
  obtain ⟨hd, hle, hsw, hw⟩ := good_of hk hri
  obtain rfl : nx = pc + 1 := by simpa [isSw, lenOf] using hsw
  have hd : decode (mB k) pc = .ok (.lstore_n n, 1) := by simpa using hd
  have hx0 := B.1
  have hb := hF.1
  have hown := hF.2.2.2.2.1
  · simp only [stp, sStL] at h
    split at h
    · rename_i x S
      split at h
      · rename_i hn
        simp only [Option.some.injEq, Prod.mk.injEq] at h
        obtain ⟨rfl, rfl, rfl, rfl⟩ := h
        intro H locs cells ls hL hM hq hc
        refine lv_lstore_n (nL := L.length) (lv := lvF ad 0 L) hx0 hb hd rfl hL hn rfl (fun ls' hl' => ?_)
        exact kk H locs cells ls' (LR.set2 (v := .long x) hl') hM hq hc
      · cases h
    · cases h
theorem sim_iinc {n : Nat} {kk9 : Int} {k pc nx a b c1 b0 pc' : Nat} {v : Int64} {L L' : Loc1} {S S' : List Value} {M M' : Mem} (B : Base p s0 a0 dC dI ad sv) (hW : s0.WarmedH s.vm) (hF : FrK k s m meth c) (hk : k < nM) (hri : ri k pc = some (.iinc n kk9, nx, a, b, c1, v)) (h : stp sv (.iinc n kk9) nx a b v pc L S M = some (pc', L', S', M'))
    (kk : Go p l e R s m args below meth c Q s0 ad dC dI b0 pc' L' S' M') : Go p l e R s m args below meth c Q s0 ad dC dI b0 pc L S M := by
  obtain ⟨hd, hle, hsw, hw⟩ := good_of hk hri
  obtain rfl : nx = pc + 3 := by simpa [isSw, lenOf] using hsw
  have hd : decode (mB k) pc = .ok (.iinc n kk9, 3) := by simpa using hd
  have hx0 := B.1
  have hb := hF.1
  have hown := hF.2.2.2.2.1
  · simp only [stp, sIncI] at h
    split at h
    · rename_i x hx
      simp only [Option.some.injEq, Prod.mk.injEq] at h
      obtain ⟨rfl, rfl, rfl, rfl⟩ := h
      intro H locs cells ls hL hM hq hc
      have hn : n < L.length := (List.getElem?_eq_some_iff.mp hx).1
      obtain ⟨j, hj⟩ := List.getElem?_of_mem ((lvF_mem (ad := ad) L 0 (n, .int x)).mpr ⟨n, .int x, hx, by simp [rv]⟩)
      refine lv_iinc (nL := L.length) (lv := lvF ad 0 L) hx0 hb hd hL hj rfl hn rfl (fun ls' hl' => ?_)
      exact kk H locs cells ls' (LR.set1 (v := .int _) hl') hM hq hc
    · cases h
theorem sim_iconst {n : Int} {k pc nx a b c1 b0 pc' : Nat} {v : Int64} {L L' : Loc1} {S S' : List Value} {M M' : Mem} (B : Base p s0 a0 dC dI ad sv) (hW : s0.WarmedH s.vm) (hF : FrK k s m meth c) (hk : k < nM) (hri : ri k pc = some (.iconst n, nx, a, b, c1, v)) (h : stp sv (.iconst n) nx a b v pc L S M = some (pc', L', S', M'))
    (kk : Go p l e R s m args below meth c Q s0 ad dC dI b0 pc' L' S' M') : Go p l e R s m args below meth c Q s0 ad dC dI b0 pc L S M := by
  obtain ⟨hd, hle, hsw, hw⟩ := good_of hk hri
  obtain rfl : nx = pc + 1 := by simpa [isSw, lenOf] using hsw
  have hd : decode (mB k) pc = .ok (.iconst n, 1) := by simpa using hd
  have hx0 := B.1
  have hb := hF.1
  have hown := hF.2.2.2.2.1
  · simp only [stp] at h
    simp only [Option.some.injEq, Prod.mk.injEq] at h
    obtain ⟨rfl, rfl, rfl, rfl⟩ := h
    intro H locs cells ls hL hM hq hc
    refine lv_iconst hx0 hb hd rfl ?_
    exact kk H locs cells ls hL hM hq hc
theorem sim_bipush {n : Int} {k pc nx a b c1 b0 pc' : Nat} {v : Int64} {L L' : Loc1} {S S' : List Value} {M M' : Mem} (B : Base p s0 a0 dC dI ad sv) (hW : s0.WarmedH s.vm) (hF : FrK k s m meth c) (hk : k < nM) (hri : ri k pc = some (.bipush n, nx, a, b, c1, v)) (h : stp sv (.bipush n) nx a b v pc L S M = some (pc', L', S', M'))
    (kk : Go p l e R s m args below meth c Q s0 ad dC dI b0 pc' L' S' M') : Go p l e R s m args below meth c Q s0 ad dC dI b0 pc L S M := by
  obtain ⟨hd, hle, hsw, hw⟩ := good_of hk hri
  obtain rfl : nx = pc + 2 := by simpa [isSw, lenOf] using hsw
  have hd : decode (mB k) pc = .ok (.bipush n, 2) := by simpa using hd
  have hx0 := B.1
  have hb := hF.1
  have hown := hF.2.2.2.2.1
  · simp only [stp] at h
    simp only [Option.some.injEq, Prod.mk.injEq] at h
    obtain ⟨rfl, rfl, rfl, rfl⟩ := h
    intro H locs cells ls hL hM hq hc
    refine lv_bipush hx0 hb hd rfl ?_
    exact kk H locs cells ls hL hM hq hc
theorem sim_sipush {n : Int} {k pc nx a b c1 b0 pc' : Nat} {v : Int64} {L L' : Loc1} {S S' : List Value} {M M' : Mem} (B : Base p s0 a0 dC dI ad sv) (hW : s0.WarmedH s.vm) (hF : FrK k s m meth c) (hk : k < nM) (hri : ri k pc = some (.sipush n, nx, a, b, c1, v)) (h : stp sv (.sipush n) nx a b v pc L S M = some (pc', L', S', M'))
    (kk : Go p l e R s m args below meth c Q s0 ad dC dI b0 pc' L' S' M') : Go p l e R s m args below meth c Q s0 ad dC dI b0 pc L S M := by
  obtain ⟨hd, hle, hsw, hw⟩ := good_of hk hri
  obtain rfl : nx = pc + 3 := by simpa [isSw, lenOf] using hsw
  have hd : decode (mB k) pc = .ok (.sipush n, 3) := by simpa using hd
  have hx0 := B.1
  have hb := hF.1
  have hown := hF.2.2.2.2.1
  · simp only [stp] at h
    simp only [Option.some.injEq, Prod.mk.injEq] at h
    obtain ⟨rfl, rfl, rfl, rfl⟩ := h
    intro H locs cells ls hL hM hq hc
    refine lv_sipush hx0 hb hd rfl ?_
    exact kk H locs cells ls hL hM hq hc
theorem sim_lconst {n : Fin 2} {k pc nx a b c1 b0 pc' : Nat} {v : Int64} {L L' : Loc1} {S S' : List Value} {M M' : Mem} (B : Base p s0 a0 dC dI ad sv) (hW : s0.WarmedH s.vm) (hF : FrK k s m meth c) (hk : k < nM) (hri : ri k pc = some (.lconst n, nx, a, b, c1, v)) (h : stp sv (.lconst n) nx a b v pc L S M = some (pc', L', S', M'))
    (kk : Go p l e R s m args below meth c Q s0 ad dC dI b0 pc' L' S' M') : Go p l e R s m args below meth c Q s0 ad dC dI b0 pc L S M := by
  obtain ⟨hd, hle, hsw, hw⟩ := good_of hk hri
  obtain rfl : nx = pc + 1 := by simpa [isSw, lenOf] using hsw
  have hd : decode (mB k) pc = .ok (.lconst n, 1) := by simpa using hd
  have hx0 := B.1
  have hb := hF.1
  have hown := hF.2.2.2.2.1
  · simp only [stp] at h
    simp only [Option.some.injEq, Prod.mk.injEq] at h
    obtain ⟨rfl, rfl, rfl, rfl⟩ := h
    intro H locs cells ls hL hM hq hc
    refine lv_lconst hx0 hb hd rfl ?_
    exact kk H locs cells ls hL hM hq hc
theorem sim_aconst_null  {k pc nx a b c1 b0 pc' : Nat} {v : Int64} {L L' : Loc1} {S S' : List Value} {M M' : Mem} (B : Base p s0 a0 dC dI ad sv) (hW : s0.WarmedH s.vm) (hF : FrK k s m meth c) (hk : k < nM) (hri : ri k pc = some (.aconst_null, nx, a, b, c1, v)) (h : stp sv (.aconst_null) nx a b v pc L S M = some (pc', L', S', M'))
    (kk : Go p l e R s m args below meth c Q s0 ad dC dI b0 pc' L' S' M') : Go p l e R s m args below meth c Q s0 ad dC dI b0 pc L S M := by
  obtain ⟨hd, hle, hsw, hw⟩ := good_of hk hri
  obtain rfl : nx = pc + 1 := by simpa [isSw, lenOf] using hsw
  have hd : decode (mB k) pc = .ok (.aconst_null, 1) := by simpa using hd
  have hx0 := B.1
  have hb := hF.1
  have hown := hF.2.2.2.2.1
  · simp only [stp] at h
    simp only [Option.some.injEq, Prod.mk.injEq] at h
    obtain ⟨rfl, rfl, rfl, rfl⟩ := h
    intro H locs cells ls hL hM hq hc
    refine lv_null hx0 hb hd ?_
    exact kk H locs cells ls hL hM hq hc
theorem sim_ldc {n : Nat} {k pc nx a b c1 b0 pc' : Nat} {v : Int64} {L L' : Loc1} {S S' : List Value} {M M' : Mem} (B : Base p s0 a0 dC dI ad sv) (hW : s0.WarmedH s.vm) (hF : FrK k s m meth c) (hk : k < nM) (hri : ri k pc = some (.ldc n, nx, a, b, c1, v)) (h : stp sv (.ldc n) nx a b v pc L S M = some (pc', L', S', M'))
    (kk : Go p l e R s m args below meth c Q s0 ad dC dI b0 pc' L' S' M') : Go p l e R s m args below meth c Q s0 ad dC dI b0 pc L S M := by
  obtain ⟨hd, hle, hsw, hw⟩ := good_of hk hri
  obtain rfl : nx = pc + 2 := by simpa [isSw, lenOf] using hsw
  have hd : decode (mB k) pc = .ok (.ldc n, 2) := by simpa using hd
  have hx0 := B.1
  have hb := hF.1
  have hown := hF.2.2.2.2.1
  · simp only [stp] at h
    by_cases ha : a = 0
    · subst ha
      simp only [wordB, Nat.beq_refl, cond_true, decide_eq_true_eq] at hw
      simp only [Nat.beq_refl, cond_true, Option.some.injEq, Prod.mk.injEq] at h
      obtain ⟨rfl, rfl, rfl, rfl⟩ := h
      intro H locs cells ls hL hM hq hc
      refine lv_ldc hx0 hb hown (wd B hW (tbW_in hw) rfl) hd ?_
      exact kk H locs cells ls hL hM hq hc
    · have ha' : Nat.beq a 0 = false := by cases e9 : Nat.beq a 0 with | false => rfl | true => exact absurd (Nat.eq_of_beq_eq_true e9) ha
      simp only [wordB, ha', cond_false, Bool.and_eq_true, decide_eq_true_eq, Nat.blt_eq] at hw
      simp only [ha', cond_false, Option.some.injEq, Prod.mk.injEq] at h
      obtain ⟨rfl, rfl, rfl, rfl⟩ := h
      intro H locs cells ls hL hM hq hc
      refine va_ldcS hx0 hb hown (vk_R.warm hW (B.2.2.2.2.2.1 _ _ b (tbW_in hw.2) hw.1.2)) hd ?_
      exact kk H locs cells ls hL hM hq hc
theorem sim_ldc_w {n : Nat} {k pc nx a b c1 b0 pc' : Nat} {v : Int64} {L L' : Loc1} {S S' : List Value} {M M' : Mem} (B : Base p s0 a0 dC dI ad sv) (hW : s0.WarmedH s.vm) (hF : FrK k s m meth c) (hk : k < nM) (hri : ri k pc = some (.ldc_w n, nx, a, b, c1, v)) (h : stp sv (.ldc_w n) nx a b v pc L S M = some (pc', L', S', M'))
    (kk : Go p l e R s m args below meth c Q s0 ad dC dI b0 pc' L' S' M') : Go p l e R s m args below meth c Q s0 ad dC dI b0 pc L S M := by
  obtain ⟨hd, hle, hsw, hw⟩ := good_of hk hri
  obtain rfl : nx = pc + 3 := by simpa [isSw, lenOf] using hsw
  have hd : decode (mB k) pc = .ok (.ldc_w n, 3) := by simpa using hd
  have hx0 := B.1
  have hb := hF.1
  have hown := hF.2.2.2.2.1
  · simp only [stp] at h
    simp only [wordB, decide_eq_true_eq] at hw
    simp only [Option.some.injEq, Prod.mk.injEq] at h
    obtain ⟨rfl, rfl, rfl, rfl⟩ := h
    intro H locs cells ls hL hM hq hc
    refine lv_ldcw hx0 hb hown (wd B hW (tbW_in hw) rfl) hd ?_
    exact kk H locs cells ls hL hM hq hc
theorem sim_ldc2_w {n : Nat} {k pc nx a b c1 b0 pc' : Nat} {v : Int64} {L L' : Loc1} {S S' : List Value} {M M' : Mem} (B : Base p s0 a0 dC dI ad sv) (hW : s0.WarmedH s.vm) (hF : FrK k s m meth c) (hk : k < nM) (hri : ri k pc = some (.ldc2_w n, nx, a, b, c1, v)) (h : stp sv (.ldc2_w n) nx a b v pc L S M = some (pc', L', S', M'))
    (kk : Go p l e R s m args below meth c Q s0 ad dC dI b0 pc' L' S' M') : Go p l e R s m args below meth c Q s0 ad dC dI b0 pc L S M := by
  obtain ⟨hd, hle, hsw, hw⟩ := good_of hk hri
  obtain rfl : nx = pc + 3 := by simpa [isSw, lenOf] using hsw
  have hd : decode (mB k) pc = .ok (.ldc2_w n, 3) := by simpa using hd
  have hx0 := B.1
  have hb := hF.1
  have hown := hF.2.2.2.2.1
  · simp only [stp] at h
    simp only [wordB, decide_eq_true_eq] at hw
    simp only [Option.some.injEq, Prod.mk.injEq] at h
    obtain ⟨rfl, rfl, rfl, rfl⟩ := h
    intro H locs cells ls hL hM hq hc
    refine lv_ldc2 hx0 hb hown (wd B hW (tbW_in hw) rfl) hd ?_
    exact kk H locs cells ls hL hM hq hc
theorem sim_iadd  {k pc nx a b c1 b0 pc' : Nat} {v : Int64} {L L' : Loc1} {S S' : List Value} {M M' : Mem} (B : Base p s0 a0 dC dI ad sv) (hW : s0.WarmedH s.vm) (hF : FrK k s m meth c) (hk : k < nM) (hri : ri k pc = some (.iadd, nx, a, b, c1, v)) (h : stp sv (.iadd) nx a b v pc L S M = some (pc', L', S', M'))
    (kk : Go p l e R s m args below meth c Q s0 ad dC dI b0 pc' L' S' M') : Go p l e R s m args below meth c Q s0 ad dC dI b0 pc L S M := by
  obtain ⟨hd, hle, hsw, hw⟩ := good_of hk hri
  obtain rfl : nx = pc + 1 := by simpa [isSw, lenOf] using hsw
  have hd : decode (mB k) pc = .ok (.iadd, 1) := by simpa using hd
  have hx0 := B.1
  have hb := hF.1
  have hown := hF.2.2.2.2.1
  · simp only [stp, sOp2] at h
    split at h
    · simp only [Option.some.injEq, Prod.mk.injEq] at h
      obtain ⟨rfl, rfl, rfl, rfl⟩ := h
      intro H locs cells ls hL hM hq hc
      refine lv_iadd hx0 hb hd ?_
      exact kk H locs cells ls hL hM hq hc
    · cases h
theorem sim_isub  {k pc nx a b c1 b0 pc' : Nat} {v : Int64} {L L' : Loc1} {S S' : List Value} {M M' : Mem} (B : Base p s0 a0 dC dI ad sv) (hW : s0.WarmedH s.vm) (hF : FrK k s m meth c) (hk : k < nM) (hri : ri k pc = some (.isub, nx, a, b, c1, v)) (h : stp sv (.isub) nx a b v pc L S M = some (pc', L', S', M'))
    (kk : Go p l e R s m args below meth c Q s0 ad dC dI b0 pc' L' S' M') : Go p l e R s m args below meth c Q s0 ad dC dI b0 pc L S M := by
  obtain ⟨hd, hle, hsw, hw⟩ := good_of hk hri
  obtain rfl : nx = pc + 1 := by simpa [isSw, lenOf] using hsw
  have hd : decode (mB k) pc = .ok (.isub, 1) := by simpa using hd
  have hx0 := B.1
  have hb := hF.1
  have hown := hF.2.2.2.2.1
  · simp only [stp, sOp2] at h
    split at h
    · simp only [Option.some.injEq, Prod.mk.injEq] at h
      obtain ⟨rfl, rfl, rfl, rfl⟩ := h
      intro H locs cells ls hL hM hq hc
      refine lv_isub hx0 hb hd ?_
      exact kk H locs cells ls hL hM hq hc
    · cases h
theorem sim_imul  {k pc nx a b c1 b0 pc' : Nat} {v : Int64} {L L' : Loc1} {S S' : List Value} {M M' : Mem} (B : Base p s0 a0 dC dI ad sv) (hW : s0.WarmedH s.vm) (hF : FrK k s m meth c) (hk : k < nM) (hri : ri k pc = some (.imul, nx, a, b, c1, v)) (h : stp sv (.imul) nx a b v pc L S M = some (pc', L', S', M'))
    (kk : Go p l e R s m args below meth c Q s0 ad dC dI b0 pc' L' S' M') : Go p l e R s m args below meth c Q s0 ad dC dI b0 pc L S M := by
  obtain ⟨hd, hle, hsw, hw⟩ := good_of hk hri
  obtain rfl : nx = pc + 1 := by simpa [isSw, lenOf] using hsw
  have hd : decode (mB k) pc = .ok (.imul, 1) := by simpa using hd
  have hx0 := B.1
  have hb := hF.1
  have hown := hF.2.2.2.2.1
  · simp only [stp, sOp2] at h
    split at h
    · simp only [Option.some.injEq, Prod.mk.injEq] at h
      obtain ⟨rfl, rfl, rfl, rfl⟩ := h
      intro H locs cells ls hL hM hq hc
      refine lv_imul hx0 hb hd ?_
      exact kk H locs cells ls hL hM hq hc
    · cases h
theorem sim_iand  {k pc nx a b c1 b0 pc' : Nat} {v : Int64} {L L' : Loc1} {S S' : List Value} {M M' : Mem} (B : Base p s0 a0 dC dI ad sv) (hW : s0.WarmedH s.vm) (hF : FrK k s m meth c) (hk : k < nM) (hri : ri k pc = some (.iand, nx, a, b, c1, v)) (h : stp sv (.iand) nx a b v pc L S M = some (pc', L', S', M'))
    (kk : Go p l e R s m args below meth c Q s0 ad dC dI b0 pc' L' S' M') : Go p l e R s m args below meth c Q s0 ad dC dI b0 pc L S M := by
  obtain ⟨hd, hle, hsw, hw⟩ := good_of hk hri
  obtain rfl : nx = pc + 1 := by simpa [isSw, lenOf] using hsw
  have hd : decode (mB k) pc = .ok (.iand, 1) := by simpa using hd
  have hx0 := B.1
  have hb := hF.1
  have hown := hF.2.2.2.2.1
  · simp only [stp, sOp2] at h
    split at h
    · simp only [Option.some.injEq, Prod.mk.injEq] at h
      obtain ⟨rfl, rfl, rfl, rfl⟩ := h
      intro H locs cells ls hL hM hq hc
      refine lv_iand hx0 hb hd ?_
      exact kk H locs cells ls hL hM hq hc
    · cases h
theorem sim_ior  {k pc nx a b c1 b0 pc' : Nat} {v : Int64} {L L' : Loc1} {S S' : List Value} {M M' : Mem} (B : Base p s0 a0 dC dI ad sv) (hW : s0.WarmedH s.vm) (hF : FrK k s m meth c) (hk : k < nM) (hri : ri k pc = some (.ior, nx, a, b, c1, v)) (h : stp sv (.ior) nx a b v pc L S M = some (pc', L', S', M'))
    (kk : Go p l e R s m args below meth c Q s0 ad dC dI b0 pc' L' S' M') : Go p l e R s m args below meth c Q s0 ad dC dI b0 pc L S M := by
  obtain ⟨hd, hle, hsw, hw⟩ := good_of hk hri
  obtain rfl : nx = pc + 1 := by simpa [isSw, lenOf] using hsw
  have hd : decode (mB k) pc = .ok (.ior, 1) := by simpa using hd
  have hx0 := B.1
  have hb := hF.1
  have hown := hF.2.2.2.2.1
  · simp only [stp, sOp2] at h
    split at h
    · simp only [Option.some.injEq, Prod.mk.injEq] at h
      obtain ⟨rfl, rfl, rfl, rfl⟩ := h
      intro H locs cells ls hL hM hq hc
      refine lv_ior hx0 hb hd ?_
      exact kk H locs cells ls hL hM hq hc
    · cases h
theorem sim_ixor  {k pc nx a b c1 b0 pc' : Nat} {v : Int64} {L L' : Loc1} {S S' : List Value} {M M' : Mem} (B : Base p s0 a0 dC dI ad sv) (hW : s0.WarmedH s.vm) (hF : FrK k s m meth c) (hk : k < nM) (hri : ri k pc = some (.ixor, nx, a, b, c1, v)) (h : stp sv (.ixor) nx a b v pc L S M = some (pc', L', S', M'))
    (kk : Go p l e R s m args below meth c Q s0 ad dC dI b0 pc' L' S' M') : Go p l e R s m args below meth c Q s0 ad dC dI b0 pc L S M := by
  obtain ⟨hd, hle, hsw, hw⟩ := good_of hk hri
  obtain rfl : nx = pc + 1 := by simpa [isSw, lenOf] using hsw
  have hd : decode (mB k) pc = .ok (.ixor, 1) := by simpa using hd
  have hx0 := B.1
  have hb := hF.1
  have hown := hF.2.2.2.2.1
  · simp only [stp, sOp2] at h
    split at h
    · simp only [Option.some.injEq, Prod.mk.injEq] at h
      obtain ⟨rfl, rfl, rfl, rfl⟩ := h
      intro H locs cells ls hL hM hq hc
      refine lv_ixor hx0 hb hd ?_
      exact kk H locs cells ls hL hM hq hc
    · cases h
theorem sim_ishl  {k pc nx a b c1 b0 pc' : Nat} {v : Int64} {L L' : Loc1} {S S' : List Value} {M M' : Mem} (B : Base p s0 a0 dC dI ad sv) (hW : s0.WarmedH s.vm) (hF : FrK k s m meth c) (hk : k < nM) (hri : ri k pc = some (.ishl, nx, a, b, c1, v)) (h : stp sv (.ishl) nx a b v pc L S M = some (pc', L', S', M'))
    (kk : Go p l e R s m args below meth c Q s0 ad dC dI b0 pc' L' S' M') : Go p l e R s m args below meth c Q s0 ad dC dI b0 pc L S M := by
  obtain ⟨hd, hle, hsw, hw⟩ := good_of hk hri
  obtain rfl : nx = pc + 1 := by simpa [isSw, lenOf] using hsw
  have hd : decode (mB k) pc = .ok (.ishl, 1) := by simpa using hd
  have hx0 := B.1
  have hb := hF.1
  have hown := hF.2.2.2.2.1
  · simp only [stp, sOp2] at h
    split at h
    · simp only [Option.some.injEq, Prod.mk.injEq] at h
      obtain ⟨rfl, rfl, rfl, rfl⟩ := h
      intro H locs cells ls hL hM hq hc
      refine lv_ishl hx0 hb hd ?_
      exact kk H locs cells ls hL hM hq hc
    · cases h
theorem sim_ishr  {k pc nx a b c1 b0 pc' : Nat} {v : Int64} {L L' : Loc1} {S S' : List Value} {M M' : Mem} (B : Base p s0 a0 dC dI ad sv) (hW : s0.WarmedH s.vm) (hF : FrK k s m meth c) (hk : k < nM) (hri : ri k pc = some (.ishr, nx, a, b, c1, v)) (h : stp sv (.ishr) nx a b v pc L S M = some (pc', L', S', M'))
    (kk : Go p l e R s m args below meth c Q s0 ad dC dI b0 pc' L' S' M') : Go p l e R s m args below meth c Q s0 ad dC dI b0 pc L S M := by
  obtain ⟨hd, hle, hsw, hw⟩ := good_of hk hri
  obtain rfl : nx = pc + 1 := by simpa [isSw, lenOf] using hsw
  have hd : decode (mB k) pc = .ok (.ishr, 1) := by simpa using hd
  have hx0 := B.1
  have hb := hF.1
  have hown := hF.2.2.2.2.1
  · simp only [stp, sOp2] at h
    split at h
    · simp only [Option.some.injEq, Prod.mk.injEq] at h
      obtain ⟨rfl, rfl, rfl, rfl⟩ := h
      intro H locs cells ls hL hM hq hc
      refine lv_ishr hx0 hb hd ?_
      exact kk H locs cells ls hL hM hq hc
    · cases h
theorem sim_iushr  {k pc nx a b c1 b0 pc' : Nat} {v : Int64} {L L' : Loc1} {S S' : List Value} {M M' : Mem} (B : Base p s0 a0 dC dI ad sv) (hW : s0.WarmedH s.vm) (hF : FrK k s m meth c) (hk : k < nM) (hri : ri k pc = some (.iushr, nx, a, b, c1, v)) (h : stp sv (.iushr) nx a b v pc L S M = some (pc', L', S', M'))
    (kk : Go p l e R s m args below meth c Q s0 ad dC dI b0 pc' L' S' M') : Go p l e R s m args below meth c Q s0 ad dC dI b0 pc L S M := by
  obtain ⟨hd, hle, hsw, hw⟩ := good_of hk hri
  obtain rfl : nx = pc + 1 := by simpa [isSw, lenOf] using hsw
  have hd : decode (mB k) pc = .ok (.iushr, 1) := by simpa using hd
  have hx0 := B.1
  have hb := hF.1
  have hown := hF.2.2.2.2.1
  · simp only [stp, sOp2] at h
    split at h
    · simp only [Option.some.injEq, Prod.mk.injEq] at h
      obtain ⟨rfl, rfl, rfl, rfl⟩ := h
      intro H locs cells ls hL hM hq hc
      refine lv_iushr hx0 hb hd rfl ?_
      exact kk H locs cells ls hL hM hq hc
    · cases h
theorem sim_idiv  {k pc nx a b c1 b0 pc' : Nat} {v : Int64} {L L' : Loc1} {S S' : List Value} {M M' : Mem} (B : Base p s0 a0 dC dI ad sv) (hW : s0.WarmedH s.vm) (hF : FrK k s m meth c) (hk : k < nM) (hri : ri k pc = some (.idiv, nx, a, b, c1, v)) (h : stp sv (.idiv) nx a b v pc L S M = some (pc', L', S', M'))
    (kk : Go p l e R s m args below meth c Q s0 ad dC dI b0 pc' L' S' M') : Go p l e R s m args below meth c Q s0 ad dC dI b0 pc L S M := by
  obtain ⟨hd, hle, hsw, hw⟩ := good_of hk hri
  obtain rfl : nx = pc + 1 := by simpa [isSw, lenOf] using hsw
  have hd : decode (mB k) pc = .ok (.idiv, 1) := by simpa using hd
  have hx0 := B.1
  have hb := hF.1
  have hown := hF.2.2.2.2.1
  · simp only [stp, sDiv] at h
    split at h
    · split at h
      · cases h
      · rename_i hne
        simp only [Option.some.injEq, Prod.mk.injEq] at h
        obtain ⟨rfl, rfl, rfl, rfl⟩ := h
        intro H locs cells ls hL hM hq hc
        refine lv_idiv hx0 hb hd hne ?_
        exact kk H locs cells ls hL hM hq hc
    · cases h
theorem sim_irem  {k pc nx a b c1 b0 pc' : Nat} {v : Int64} {L L' : Loc1} {S S' : List Value} {M M' : Mem} (B : Base p s0 a0 dC dI ad sv) (hW : s0.WarmedH s.vm) (hF : FrK k s m meth c) (hk : k < nM) (hri : ri k pc = some (.irem, nx, a, b, c1, v)) (h : stp sv (.irem) nx a b v pc L S M = some (pc', L', S', M'))
    (kk : Go p l e R s m args below meth c Q s0 ad dC dI b0 pc' L' S' M') : Go p l e R s m args below meth c Q s0 ad dC dI b0 pc L S M := by
  obtain ⟨hd, hle, hsw, hw⟩ := good_of hk hri
  obtain rfl : nx = pc + 1 := by simpa [isSw, lenOf] using hsw
  have hd : decode (mB k) pc = .ok (.irem, 1) := by simpa using hd
  have hx0 := B.1
  have hb := hF.1
  have hown := hF.2.2.2.2.1
  · simp only [stp, sDiv] at h
    split at h
    · split at h
      · cases h
      · rename_i hne
        simp only [Option.some.injEq, Prod.mk.injEq] at h
        obtain ⟨rfl, rfl, rfl, rfl⟩ := h
        intro H locs cells ls hL hM hq hc
        refine lv_irem hx0 hb hd hne ?_
        exact kk H locs cells ls hL hM hq hc
    · cases h
theorem sim_ineg  {k pc nx a b c1 b0 pc' : Nat} {v : Int64} {L L' : Loc1} {S S' : List Value} {M M' : Mem} (B : Base p s0 a0 dC dI ad sv) (hW : s0.WarmedH s.vm) (hF : FrK k s m meth c) (hk : k < nM) (hri : ri k pc = some (.ineg, nx, a, b, c1, v)) (h : stp sv (.ineg) nx a b v pc L S M = some (pc', L', S', M'))
    (kk : Go p l e R s m args below meth c Q s0 ad dC dI b0 pc' L' S' M') : Go p l e R s m args below meth c Q s0 ad dC dI b0 pc L S M := by
  obtain ⟨hd, hle, hsw, hw⟩ := good_of hk hri
  obtain rfl : nx = pc + 1 := by simpa [isSw, lenOf] using hsw
  have hd : decode (mB k) pc = .ok (.ineg, 1) := by simpa using hd
  have hx0 := B.1
  have hb := hF.1
  have hown := hF.2.2.2.2.1
  · simp only [stp, sOp1] at h
    split at h
    · simp only [Option.some.injEq, Prod.mk.injEq] at h
      obtain ⟨rfl, rfl, rfl, rfl⟩ := h
      intro H locs cells ls hL hM hq hc
      refine lv_ineg hx0 hb hd ?_
      exact kk H locs cells ls hL hM hq hc
    · cases h
theorem sim_i2b  {k pc nx a b c1 b0 pc' : Nat} {v : Int64} {L L' : Loc1} {S S' : List Value} {M M' : Mem} (B : Base p s0 a0 dC dI ad sv) (hW : s0.WarmedH s.vm) (hF : FrK k s m meth c) (hk : k < nM) (hri : ri k pc = some (.i2b, nx, a, b, c1, v)) (h : stp sv (.i2b) nx a b v pc L S M = some (pc', L', S', M'))
    (kk : Go p l e R s m args below meth c Q s0 ad dC dI b0 pc' L' S' M') : Go p l e R s m args below meth c Q s0 ad dC dI b0 pc L S M := by
  obtain ⟨hd, hle, hsw, hw⟩ := good_of hk hri
  obtain rfl : nx = pc + 1 := by simpa [isSw, lenOf] using hsw
  have hd : decode (mB k) pc = .ok (.i2b, 1) := by simpa using hd
  have hx0 := B.1
  have hb := hF.1
  have hown := hF.2.2.2.2.1
  · simp only [stp, sOp1] at h
    split at h
    · simp only [Option.some.injEq, Prod.mk.injEq] at h
      obtain ⟨rfl, rfl, rfl, rfl⟩ := h
      intro H locs cells ls hL hM hq hc
      refine lv_i2b hx0 hb hd rfl ?_
      exact kk H locs cells ls hL hM hq hc
    · cases h
theorem sim_i2c  {k pc nx a b c1 b0 pc' : Nat} {v : Int64} {L L' : Loc1} {S S' : List Value} {M M' : Mem} (B : Base p s0 a0 dC dI ad sv) (hW : s0.WarmedH s.vm) (hF : FrK k s m meth c) (hk : k < nM) (hri : ri k pc = some (.i2c, nx, a, b, c1, v)) (h : stp sv (.i2c) nx a b v pc L S M = some (pc', L', S', M'))
    (kk : Go p l e R s m args below meth c Q s0 ad dC dI b0 pc' L' S' M') : Go p l e R s m args below meth c Q s0 ad dC dI b0 pc L S M := by
  obtain ⟨hd, hle, hsw, hw⟩ := good_of hk hri
  obtain rfl : nx = pc + 1 := by simpa [isSw, lenOf] using hsw
  have hd : decode (mB k) pc = .ok (.i2c, 1) := by simpa using hd
  have hx0 := B.1
  have hb := hF.1
  have hown := hF.2.2.2.2.1
  · simp only [stp, sOp1] at h
    split at h
    · simp only [Option.some.injEq, Prod.mk.injEq] at h
      obtain ⟨rfl, rfl, rfl, rfl⟩ := h
      intro H locs cells ls hL hM hq hc
      refine lv_i2c hx0 hb hd rfl ?_
      exact kk H locs cells ls hL hM hq hc
    · cases h
theorem sim_ladd  {k pc nx a b c1 b0 pc' : Nat} {v : Int64} {L L' : Loc1} {S S' : List Value} {M M' : Mem} (B : Base p s0 a0 dC dI ad sv) (hW : s0.WarmedH s.vm) (hF : FrK k s m meth c) (hk : k < nM) (hri : ri k pc = some (.ladd, nx, a, b, c1, v)) (h : stp sv (.ladd) nx a b v pc L S M = some (pc', L', S', M'))
    (kk : Go p l e R s m args below meth c Q s0 ad dC dI b0 pc' L' S' M') : Go p l e R s m args below meth c Q s0 ad dC dI b0 pc L S M := by
  obtain ⟨hd, hle, hsw, hw⟩ := good_of hk hri
  obtain rfl : nx = pc + 1 := by simpa [isSw, lenOf] using hsw
  have hd : decode (mB k) pc = .ok (.ladd, 1) := by simpa using hd
  have hx0 := B.1
  have hb := hF.1
  have hown := hF.2.2.2.2.1
  · simp only [stp, sOpL] at h
    split at h
    · simp only [Option.some.injEq, Prod.mk.injEq] at h
      obtain ⟨rfl, rfl, rfl, rfl⟩ := h
      intro H locs cells ls hL hM hq hc
      refine lv_ladd hx0 hb hd ?_
      exact kk H locs cells ls hL hM hq hc
    · cases h
theorem sim_lmul  {k pc nx a b c1 b0 pc' : Nat} {v : Int64} {L L' : Loc1} {S S' : List Value} {M M' : Mem} (B : Base p s0 a0 dC dI ad sv) (hW : s0.WarmedH s.vm) (hF : FrK k s m meth c) (hk : k < nM) (hri : ri k pc = some (.lmul, nx, a, b, c1, v)) (h : stp sv (.lmul) nx a b v pc L S M = some (pc', L', S', M'))
    (kk : Go p l e R s m args below meth c Q s0 ad dC dI b0 pc' L' S' M') : Go p l e R s m args below meth c Q s0 ad dC dI b0 pc L S M := by
  obtain ⟨hd, hle, hsw, hw⟩ := good_of hk hri
  obtain rfl : nx = pc + 1 := by simpa [isSw, lenOf] using hsw
  have hd : decode (mB k) pc = .ok (.lmul, 1) := by simpa using hd
  have hx0 := B.1
  have hb := hF.1
  have hown := hF.2.2.2.2.1
  · simp only [stp, sOpL] at h
    split at h
    · simp only [Option.some.injEq, Prod.mk.injEq] at h
      obtain ⟨rfl, rfl, rfl, rfl⟩ := h
      intro H locs cells ls hL hM hq hc
      refine lv_lmul hx0 hb hd ?_
      exact kk H locs cells ls hL hM hq hc
    · cases h
theorem sim_lcmp  {k pc nx a b c1 b0 pc' : Nat} {v : Int64} {L L' : Loc1} {S S' : List Value} {M M' : Mem} (B : Base p s0 a0 dC dI ad sv) (hW : s0.WarmedH s.vm) (hF : FrK k s m meth c) (hk : k < nM) (hri : ri k pc = some (.lcmp, nx, a, b, c1, v)) (h : stp sv (.lcmp) nx a b v pc L S M = some (pc', L', S', M'))
    (kk : Go p l e R s m args below meth c Q s0 ad dC dI b0 pc' L' S' M') : Go p l e R s m args below meth c Q s0 ad dC dI b0 pc L S M := by
  obtain ⟨hd, hle, hsw, hw⟩ := good_of hk hri
  obtain rfl : nx = pc + 1 := by simpa [isSw, lenOf] using hsw
  have hd : decode (mB k) pc = .ok (.lcmp, 1) := by simpa using hd
  have hx0 := B.1
  have hb := hF.1
  have hown := hF.2.2.2.2.1
  · simp only [stp, sCmpL] at h
    split at h
    · simp only [Option.some.injEq, Prod.mk.injEq] at h
      obtain ⟨rfl, rfl, rfl, rfl⟩ := h
      intro H locs cells ls hL hM hq hc
      refine W.lcmp hx0 hb hd ?_
      exact kk H locs cells ls hL hM hq hc
    · cases h
theorem sim_i2l  {k pc nx a b c1 b0 pc' : Nat} {v : Int64} {L L' : Loc1} {S S' : List Value} {M M' : Mem} (B : Base p s0 a0 dC dI ad sv) (hW : s0.WarmedH s.vm) (hF : FrK k s m meth c) (hk : k < nM) (hri : ri k pc = some (.i2l, nx, a, b, c1, v)) (h : stp sv (.i2l) nx a b v pc L S M = some (pc', L', S', M'))
    (kk : Go p l e R s m args below meth c Q s0 ad dC dI b0 pc' L' S' M') : Go p l e R s m args below meth c Q s0 ad dC dI b0 pc L S M := by
  obtain ⟨hd, hle, hsw, hw⟩ := good_of hk hri
  obtain rfl : nx = pc + 1 := by simpa [isSw, lenOf] using hsw
  have hd : decode (mB k) pc = .ok (.i2l, 1) := by simpa using hd
  have hx0 := B.1
  have hb := hF.1
  have hown := hF.2.2.2.2.1
  · simp only [stp, sI2L] at h
    split at h
    · simp only [Option.some.injEq, Prod.mk.injEq] at h
      obtain ⟨rfl, rfl, rfl, rfl⟩ := h
      intro H locs cells ls hL hM hq hc
      refine lv_i2l hx0 hb hd rfl ?_
      exact kk H locs cells ls hL hM hq hc
    · cases h
theorem sim_dup  {k pc nx a b c1 b0 pc' : Nat} {v : Int64} {L L' : Loc1} {S S' : List Value} {M M' : Mem} (B : Base p s0 a0 dC dI ad sv) (hW : s0.WarmedH s.vm) (hF : FrK k s m meth c) (hk : k < nM) (hri : ri k pc = some (.dup, nx, a, b, c1, v)) (h : stp sv (.dup) nx a b v pc L S M = some (pc', L', S', M'))
    (kk : Go p l e R s m args below meth c Q s0 ad dC dI b0 pc' L' S' M') : Go p l e R s m args below meth c Q s0 ad dC dI b0 pc L S M := by
  obtain ⟨hd, hle, hsw, hw⟩ := good_of hk hri
  obtain rfl : nx = pc + 1 := by simpa [isSw, lenOf] using hsw
  have hd : decode (mB k) pc = .ok (.dup, 1) := by simpa using hd
  have hx0 := B.1
  have hb := hF.1
  have hown := hF.2.2.2.2.1
  · simp only [stp, sDup] at h
    split at h
    · simp only [Option.some.injEq, Prod.mk.injEq] at h
      obtain ⟨rfl, rfl, rfl, rfl⟩ := h
      intro H locs cells ls hL hM hq hc
      refine lv_dup hx0 hb hd rfl ?_
      exact kk H locs cells ls hL hM hq hc
    · simp only [Option.some.injEq, Prod.mk.injEq] at h
      obtain ⟨rfl, rfl, rfl, rfl⟩ := h
      intro H locs cells ls hL hM hq hc
      refine lv_dup hx0 hb hd rfl ?_
      exact kk H locs cells ls hL hM hq hc
    · cases h
theorem sim_pop  {k pc nx a b c1 b0 pc' : Nat} {v : Int64} {L L' : Loc1} {S S' : List Value} {M M' : Mem} (B : Base p s0 a0 dC dI ad sv) (hW : s0.WarmedH s.vm) (hF : FrK k s m meth c) (hk : k < nM) (hri : ri k pc = some (.pop, nx, a, b, c1, v)) (h : stp sv (.pop) nx a b v pc L S M = some (pc', L', S', M'))
    (kk : Go p l e R s m args below meth c Q s0 ad dC dI b0 pc' L' S' M') : Go p l e R s m args below meth c Q s0 ad dC dI b0 pc L S M := by
  obtain ⟨hd, hle, hsw, hw⟩ := good_of hk hri
  obtain rfl : nx = pc + 1 := by simpa [isSw, lenOf] using hsw
  have hd : decode (mB k) pc = .ok (.pop, 1) := by simpa using hd
  have hx0 := B.1
  have hb := hF.1
  have hown := hF.2.2.2.2.1
  · simp only [stp, sPop] at h
    split at h
    · simp only [Option.some.injEq, Prod.mk.injEq] at h
      obtain ⟨rfl, rfl, rfl, rfl⟩ := h
      intro H locs cells ls hL hM hq hc
      refine lv_pop hx0 hb hd rfl ?_
      exact kk H locs cells ls hL hM hq hc
    · cases h
theorem sim_goto {off : Int} {k pc nx a b c1 b0 pc' : Nat} {v : Int64} {L L' : Loc1} {S S' : List Value} {M M' : Mem} (B : Base p s0 a0 dC dI ad sv) (hW : s0.WarmedH s.vm) (hF : FrK k s m meth c) (hk : k < nM) (hri : ri k pc = some (.goto off, nx, a, b, c1, v)) (h : stp sv (.goto off) nx a b v pc L S M = some (pc', L', S', M'))
    (kk : Go p l e R s m args below meth c Q s0 ad dC dI b0 pc' L' S' M') : Go p l e R s m args below meth c Q s0 ad dC dI b0 pc L S M := by
  obtain ⟨hd, hle, hsw, hw⟩ := good_of hk hri
  obtain rfl : nx = pc + 3 := by simpa [isSw, lenOf] using hsw
  have hd : decode (mB k) pc = .ok (.goto off, 3) := by simpa using hd
  have hx0 := B.1
  have hb := hF.1
  have hown := hF.2.2.2.2.1
  · simp only [stp] at h
    simp only [wordB, decide_eq_true_eq] at hw
    simp only [Option.some.injEq, Prod.mk.injEq] at h
    obtain ⟨rfl, rfl, rfl, rfl⟩ := h
    intro H locs cells ls hL hM hq hc
    refine lv_goto hx0 hb hd hw ?_
    exact kk H locs cells ls hL hM hq hc
theorem sim_ifCond {cd : Jvm.ClassFile.Cond} {off : Int} {k pc nx a b c1 b0 pc' : Nat} {v : Int64} {L L' : Loc1} {S S' : List Value} {M M' : Mem} (B : Base p s0 a0 dC dI ad sv) (hW : s0.WarmedH s.vm) (hF : FrK k s m meth c) (hk : k < nM) (hri : ri k pc = some (.ifCond cd off, nx, a, b, c1, v)) (h : stp sv (.ifCond cd off) nx a b v pc L S M = some (pc', L', S', M'))
    (kk : Go p l e R s m args below meth c Q s0 ad dC dI b0 pc' L' S' M') : Go p l e R s m args below meth c Q s0 ad dC dI b0 pc L S M := by
  obtain ⟨hd, hle, hsw, hw⟩ := good_of hk hri
  obtain rfl : nx = pc + 3 := by simpa [isSw, lenOf] using hsw
  have hd : decode (mB k) pc = .ok (.ifCond cd off, 3) := by simpa using hd
  have hx0 := B.1
  have hb := hF.1
  have hown := hF.2.2.2.2.1
  · simp only [stp, sIf0] at h
    simp only [wordB, decide_eq_true_eq] at hw
    split at h
    · simp only [Option.some.injEq, Prod.mk.injEq] at h
      obtain ⟨rfl, rfl, rfl, rfl⟩ := h
      intro H locs cells ls hL hM hq hc
      cases cd with
      | eq =>
        refine lv_if_eq hx0 hb hd hw (fun q9 => ?_) (fun q9 => ?_)
        · have := kk H locs cells ls hL hM hq hc
          simp only [cn0, if_pos q9] at this
          exact this
        · have := kk H locs cells ls hL hM hq hc
          simp only [cn0, if_neg q9] at this
          exact this
      | ne =>
        refine lv_if_ne hx0 hb hd hw (fun q9 => ?_) (fun q9 => ?_)
        · have := kk H locs cells ls hL hM hq hc
          simp only [cn0, if_pos q9] at this
          exact this
        · have := kk H locs cells ls hL hM hq hc
          simp only [cn0, if_neg (not_not_intro q9)] at this
          exact this
      | lt =>
        refine lv_if_lt hx0 hb hd hw (fun q9 => ?_) (fun q9 => ?_)
        · have := kk H locs cells ls hL hM hq hc
          simp only [cn0, if_pos q9] at this
          exact this
        · have := kk H locs cells ls hL hM hq hc
          simp only [cn0, if_neg q9] at this
          exact this
      | ge =>
        refine lv_if_ge hx0 hb hd hw (fun q9 => ?_) (fun q9 => ?_)
        · have := kk H locs cells ls hL hM hq hc
          simp only [cn0, if_pos q9] at this
          exact this
        · have := kk H locs cells ls hL hM hq hc
          simp only [cn0, if_neg q9] at this
          exact this
      | gt =>
        refine lv_if_gt hx0 hb hd hw (fun q9 => ?_) (fun q9 => ?_)
        · have := kk H locs cells ls hL hM hq hc
          simp only [cn0, if_pos q9] at this
          exact this
        · have := kk H locs cells ls hL hM hq hc
          simp only [cn0, if_neg q9] at this
          exact this
      | le =>
        refine lv_if_le hx0 hb hd hw (fun q9 => ?_) (fun q9 => ?_)
        · have := kk H locs cells ls hL hM hq hc
          simp only [cn0, if_pos q9] at this
          exact this
        · have := kk H locs cells ls hL hM hq hc
          simp only [cn0, if_neg q9] at this
          exact this
    · cases h
theorem sim_if_icmp {cd : Jvm.ClassFile.Cond} {off : Int} {k pc nx a b c1 b0 pc' : Nat} {v : Int64} {L L' : Loc1} {S S' : List Value} {M M' : Mem} (B : Base p s0 a0 dC dI ad sv) (hW : s0.WarmedH s.vm) (hF : FrK k s m meth c) (hk : k < nM) (hri : ri k pc = some (.if_icmp cd off, nx, a, b, c1, v)) (h : stp sv (.if_icmp cd off) nx a b v pc L S M = some (pc', L', S', M'))
    (kk : Go p l e R s m args below meth c Q s0 ad dC dI b0 pc' L' S' M') : Go p l e R s m args below meth c Q s0 ad dC dI b0 pc L S M := by
  obtain ⟨hd, hle, hsw, hw⟩ := good_of hk hri
  obtain rfl : nx = pc + 3 := by simpa [isSw, lenOf] using hsw
  have hd : decode (mB k) pc = .ok (.if_icmp cd off, 3) := by simpa using hd
  have hx0 := B.1
  have hb := hF.1
  have hown := hF.2.2.2.2.1
  · simp only [stp, sIf2] at h
    simp only [wordB, decide_eq_true_eq] at hw
    split at h
    · simp only [Option.some.injEq, Prod.mk.injEq] at h
      obtain ⟨rfl, rfl, rfl, rfl⟩ := h
      intro H locs cells ls hL hM hq hc
      cases cd with
      | eq =>
        refine lv_icmp_eq hx0 hb hd hw (fun q9 => ?_) (fun q9 => ?_)
        · have := kk H locs cells ls hL hM hq hc
          simp only [cn2, if_pos q9] at this
          exact this
        · have := kk H locs cells ls hL hM hq hc
          simp only [cn2, if_neg q9] at this
          exact this
      | ne =>
        refine lv_icmp_ne hx0 hb hd hw (fun q9 => ?_) (fun q9 => ?_)
        · have := kk H locs cells ls hL hM hq hc
          simp only [cn2, if_pos q9] at this
          exact this
        · have := kk H locs cells ls hL hM hq hc
          simp only [cn2, if_neg (not_not_intro q9)] at this
          exact this
      | lt =>
        refine lv_icmp_lt hx0 hb hd hw (fun q9 => ?_) (fun q9 => ?_)
        · have := kk H locs cells ls hL hM hq hc
          simp only [cn2, if_pos q9] at this
          exact this
        · have := kk H locs cells ls hL hM hq hc
          simp only [cn2, if_neg q9] at this
          exact this
      | ge =>
        refine lv_icmp_ge hx0 hb hd hw (fun q9 => ?_) (fun q9 => ?_)
        · have := kk H locs cells ls hL hM hq hc
          simp only [cn2, if_pos q9] at this
          exact this
        · have := kk H locs cells ls hL hM hq hc
          simp only [cn2, if_neg q9] at this
          exact this
      | gt =>
        refine lv_icmp_gt hx0 hb hd hw (fun q9 => ?_) (fun q9 => ?_)
        · have := kk H locs cells ls hL hM hq hc
          simp only [cn2, if_pos q9] at this
          exact this
        · have := kk H locs cells ls hL hM hq hc
          simp only [cn2, if_neg q9] at this
          exact this
      | le =>
        refine lv_icmp_le hx0 hb hd hw (fun q9 => ?_) (fun q9 => ?_)
        · have := kk H locs cells ls hL hM hq hc
          simp only [cn2, if_pos q9] at this
          exact this
        · have := kk H locs cells ls hL hM hq hc
          simp only [cn2, if_neg q9] at this
          exact this
    · cases h
end ST
end
section
/-! instructions on cells -/
theorem setSlot_other {cell : Cell} {i j : Nat} {v : Value} (h : j ≠ i) : (cell.setSlot i v).slots[j]? = cell.slots[j]? := by
  simp [Cell.setSlot, Array.getElem?_setIfInBounds, Ne.symm h]
theorem setSlot_same {cell : Cell} {i : Nat} {v w : Value} (h : cell.slots[i]? = some w) : (cell.setSlot i v).slots[i]? = some v := by
  have := (Array.getElem?_eq_some_iff.mp h).1
  simp [Cell.setSlot, Array.getElem?_setIfInBounds, this]
theorem setSlot_arr {s0 : State} {cell : Cell} {ty : FieldType} {i : Nat} {v : Value} (h : s0.isArrayOf cell ty) : s0.isArrayOf (cell.setSlot i v) ty := h
theorem isNot_statics {x : VmData} (h : x = .none) : x ≠ .unknown ∧ x.isStatics = false := by rw [h]; exact ⟨(fun q => by cases q), rfl⟩
section SH
variable {p : Program} {l : Launch} {e : Env} {R : Room} {s : State} {m : MethodId} {args : Array Value} {below : List Frame} {meth : Method} {c : Code} {Q : State → Prop}
variable {s0 : State} {a0 : Array Value} {dC : Nat → ClassId} {dI : Nat → Nat → Nat} {ad : Nat → Nat} {sv : Nat → Value}
variable {k pc nx a b c1 b0 pc' : Nat} {v : Int64} {L L' : Loc1} {S S' : List Value} {M M' : Mem}
theorem hitF_link (B : Base p s0 a0 dC dI ad sv) (hW : s0.WarmedH s.vm) {own : String} {idx a b c1 : Nat} (h : hitF own idx a b c1 = true) :
    (isNest c1 = false ∧ (Cond.fieldLink own idx (fT a b).1 (fT a b).2.1 (fT a b).2.2.1).before args s = true) ∨ (isNest c1 = true ∧ ∃ h, (Cond.fieldLinkNest own idx (fT a b).1 (fT a b).2.1 (fT a b).2.2.1 h).before args s = true) := by
  unfold hitF at h
  split at h
  · rename_i o j r n d hq
    simp only [Bool.and_eq_true, decide_eq_true_eq, Nat.beq_eq] at h
    obtain ⟨⟨⟨⟨rfl, rfl⟩, rfl⟩, rfl⟩, rfl⟩ := h
    exact Or.inl ⟨by unfold isNest; rw [hq], wd B hW (tbW_in hq) rfl⟩
  · rename_i o j r n d h9 hq
    simp only [Bool.and_eq_true, decide_eq_true_eq, Nat.beq_eq] at h
    obtain ⟨⟨⟨⟨rfl, rfl⟩, rfl⟩, rfl⟩, rfl⟩ := h
    exact Or.inr ⟨by unfold isNest; rw [hq], _, wdF B hW (tbW_in hq)⟩
  · cases h
theorem sim_getfield {idx : Nat} (hlay : lays_ok) (B : Base p s0 a0 dC dI ad sv) (hW : s0.WarmedH s.vm) (hF : FrK k s m meth c) (hk : k < nM) (hri : ri k pc = some (.getfield idx, nx, a, b, c1, v)) (h : stp sv (.getfield idx) nx a b v pc L S M = some (pc', L', S', M'))
    (kk : Go p l e R s m args below meth c Q s0 ad dC dI b0 pc' L' S' M') : Go p l e R s m args below meth c Q s0 ad dC dI b0 pc L S M := by
  obtain ⟨hd, hle, hsw, hw⟩ := good_of hk hri
  obtain rfl : nx = pc + 3 := by simpa [isSw, lenOf] using hsw
  have hd : decode (mB k) pc = .ok (.getfield idx, 3) := by simpa using hd
  simp only [wordB, Bool.and_eq_true, Nat.blt_eq] at hw
  obtain ⟨⟨ha, hbn⟩, hw⟩ := hw
  simp only [stp, sGet] at h
  split at h
  · rename_i x S
    split at h
    · rename_i kx nx' hx
      split at h
      · rename_i hka
        subst hka
        simp only [Option.some.injEq, Prod.mk.injEq] at h
        obtain ⟨rfl, rfl, rfl, rfl⟩ := h
        intro H locs cells ls hL hM hq hc
        obtain ⟨cell, q1, q2, q3, q4, q5, q6⟩ := (hM.2.2.1 x kx nx' hx).1 ha
        obtain ⟨cf, kf, fi, fd, hi, hsl, hst⟩ := wdFd B hW hlay ha hbn
        have hv : cell.slots[fd.slot]? = some (rv ad (fld M kx x b)) := by rw [hsl]; exact q6 b hbn
        rcases hitF_link (args := args) B hW hw with ⟨-, h1⟩ | ⟨-, hh, h1⟩
        · exact W.getf B.1 hF.1 hF.2.2.2.2.1 h1 hi hst q1 q3 hv rfl rfl hd (kk H locs cells ls hL hM hq hc)
        · exact va_Wgetf B.1 hF.1 hF.2.2.2.2.1 h1 hi hst q1 q3 hv rfl rfl hd (kk H locs cells ls hL hM hq hc)
      · cases h
    · cases h
  · cases h
theorem sim_getstatic {idx : Nat} (B : Base p s0 a0 dC dI ad sv) (hW : s0.WarmedH s.vm) (hF : FrK k s m meth c) (hk : k < nM) (hri : ri k pc = some (.getstatic idx, nx, a, b, c1, v)) (h : stp sv (.getstatic idx) nx a b v pc L S M = some (pc', L', S', M'))
    (kk : Go p l e R s m args below meth c Q s0 ad dC dI b0 pc' L' S' M') : Go p l e R s m args below meth c Q s0 ad dC dI b0 pc L S M := by
  obtain ⟨hd, hle, hsw, hw⟩ := good_of hk hri
  obtain rfl : nx = pc + 3 := by simpa [isSw, lenOf] using hsw
  have hd : decode (mB k) pc = .ok (.getstatic idx, 3) := by simpa using hd
  simp only [wordB, Bool.and_eq_true, Nat.blt_eq, decide_eq_true_eq] at hw
  simp only [stp, Option.some.injEq, Prod.mk.injEq] at h
  obtain ⟨rfl, rfl, rfl, rfl⟩ := h
  intro H locs cells ls hL hM hq hc
  have hZ := va_Z.kept (H1 := H) (va_Z.moved hW.alike (B.2.2.2.2.2.2 a hw.1)) (fun q h1 _ => hM.2.1 q h1)
  obtain ⟨cf, kf, fi, f, a9, cell, z1, z2, z3, z4, z5, z6, z7, z8⟩ := hZ
  exact W.gets B.1 hF.1 hF.2.2.2.2.1 (wd B hW (tbW_in hw.2) rfl) z1 z2 z3 z4 z5 (fun q => by rw [q] at z6; cases z6) z7 rfl hd (kk H locs cells ls hL hM hq hc)
theorem sim_arraylength (B : Base p s0 a0 dC dI ad sv) (hW : s0.WarmedH s.vm) (hF : FrK k s m meth c) (hk : k < nM) (hri : ri k pc = some (.arraylength, nx, a, b, c1, v)) (h : stp sv (.arraylength) nx a b v pc L S M = some (pc', L', S', M'))
    (kk : Go p l e R s m args below meth c Q s0 ad dC dI b0 pc' L' S' M') : Go p l e R s m args below meth c Q s0 ad dC dI b0 pc L S M := by
  obtain ⟨hd, hle, hsw, hw⟩ := good_of hk hri
  obtain rfl : nx = pc + 1 := by simpa [isSw, lenOf] using hsw
  have hd : decode (mB k) pc = .ok (.arraylength, 1) := by simpa using hd
  simp only [stp, sLen] at h
  split at h
  · rename_i x S
    split at h
    · rename_i kx nx' hx
      split at h
      · rename_i hka
        simp only [Option.some.injEq, Prod.mk.injEq] at h
        obtain ⟨rfl, rfl, rfl, rfl⟩ := h
        intro H locs cells ls hL hM hq hc
        obtain ⟨cell, q1, q2, q3, q4, q5⟩ := (hM.2.2.1 x kx nx' hx).2 hka.1 hka.2
        exact W.alen B.1 hF.1 q1 (State.isArrayOf_alike hW.alike q2) (by rw [q4]) rfl rfl hd (kk H locs cells ls hL hM hq hc)
      · cases h
    · cases h
  · cases h
theorem arr_get {kd n x : Nat} {H : Heap} (hM : WR s0 ad dC dI M H) (h1 : 100 ≤ kd) (h2 : kd ≤ 103) (hx : M.2.2.2[x]? = some (kd, n)) {i : Int32} (hi : ¬ (i < 0 ∨ n ≤ i.toNatClampNeg)) :
    ∃ cell : Cell, H[ad x]? = some cell ∧ s0.isArrayOf cell (kTy kd) ∧ cell.vm ≠ .unknown ∧ ¬ (i < 0 ∨ cell.slots.size ≤ i.toNatClampNeg) ∧ cell.slots.size = n ∧ i.toNatClampNeg < n ∧ (∀ j, j < n → cell.slots[j]? = some (rv ad (elt M kd x j))) := by
  obtain ⟨cell, q1, q2, q3, q4, q5⟩ := (hM.2.2.1 x kd n hx).2 h1 h2
  have hlt : i.toNatClampNeg < n := Nat.not_le.mp fun q => hi (Or.inr q)
  exact ⟨cell, q1, q2, q3, by rw [q4]; exact hi, q4, hlt, q5⟩
theorem sim_iaload (B : Base p s0 a0 dC dI ad sv) (hW : s0.WarmedH s.vm) (hF : FrK k s m meth c) (hk : k < nM) (hri : ri k pc = some (.iaload, nx, a, b, c1, v)) (h : stp sv (.iaload) nx a b v pc L S M = some (pc', L', S', M'))
    (kk : Go p l e R s m args below meth c Q s0 ad dC dI b0 pc' L' S' M') : Go p l e R s m args below meth c Q s0 ad dC dI b0 pc L S M := by
  obtain ⟨hd, hle, hsw, hw⟩ := good_of hk hri
  obtain rfl : nx = pc + 1 := by simpa [isSw, lenOf] using hsw
  have hd : decode (mB k) pc = .ok (.iaload, 1) := by simpa using hd
  simp only [stp, sAld] at h
  split at h
  · rename_i i x S
    split at h
    · rename_i kx nx' hx
      split at h
      · rename_i hka
        obtain ⟨rfl, hi⟩ := hka
        simp only [Option.some.injEq, Prod.mk.injEq] at h
        obtain ⟨rfl, rfl, rfl, rfl⟩ := h
        intro H locs cells ls hL hM hq hc
        obtain ⟨cell, q1, q2, q3, q4, q5, q6, q7⟩ := arr_get hM (by decide) (by decide) hx hi
        exact W.iald B.1 hF.1 q1 (State.isArrayOf_alike hW.alike q2) q3 q4 (q7 _ q6) rfl rfl hd (kk H locs cells ls hL hM hq hc)
      · cases h
    · cases h
  · cases h
theorem sim_baload (B : Base p s0 a0 dC dI ad sv) (hW : s0.WarmedH s.vm) (hF : FrK k s m meth c) (hk : k < nM) (hri : ri k pc = some (.baload, nx, a, b, c1, v)) (h : stp sv (.baload) nx a b v pc L S M = some (pc', L', S', M'))
    (kk : Go p l e R s m args below meth c Q s0 ad dC dI b0 pc' L' S' M') : Go p l e R s m args below meth c Q s0 ad dC dI b0 pc L S M := by
  obtain ⟨hd, hle, hsw, hw⟩ := good_of hk hri
  obtain rfl : nx = pc + 1 := by simpa [isSw, lenOf] using hsw
  have hd : decode (mB k) pc = .ok (.baload, 1) := by simpa using hd
  simp only [stp, sAld] at h
  split at h
  · rename_i i x S
    split at h
    · rename_i kx nx' hx
      split at h
      · rename_i hka
        obtain ⟨rfl, hi⟩ := hka
        simp only [Option.some.injEq, Prod.mk.injEq] at h
        obtain ⟨rfl, rfl, rfl, rfl⟩ := h
        intro H locs cells ls hL hM hq hc
        obtain ⟨cell, q1, q2, q3, q4, q5, q6, q7⟩ := arr_get hM (by decide) (by decide) hx hi
        exact W.bald B.1 hF.1 q1 (State.isArrayOf_alike hW.alike q2) q3 q4 (q7 _ q6) rfl rfl hd (kk H locs cells ls hL hM hq hc)
      · cases h
    · cases h
  · cases h
theorem sim_laload (B : Base p s0 a0 dC dI ad sv) (hW : s0.WarmedH s.vm) (hF : FrK k s m meth c) (hk : k < nM) (hri : ri k pc = some (.laload, nx, a, b, c1, v)) (h : stp sv (.laload) nx a b v pc L S M = some (pc', L', S', M'))
    (kk : Go p l e R s m args below meth c Q s0 ad dC dI b0 pc' L' S' M') : Go p l e R s m args below meth c Q s0 ad dC dI b0 pc L S M := by
  obtain ⟨hd, hle, hsw, hw⟩ := good_of hk hri
  obtain rfl : nx = pc + 1 := by simpa [isSw, lenOf] using hsw
  have hd : decode (mB k) pc = .ok (.laload, 1) := by simpa using hd
  simp only [stp, sLld] at h
  split at h
  · rename_i i x S
    split at h
    · rename_i kx nx' hx
      split at h
      · rename_i hka
        obtain ⟨rfl, hi⟩ := hka
        simp only [Option.some.injEq, Prod.mk.injEq] at h
        obtain ⟨rfl, rfl, rfl, rfl⟩ := h
        intro H locs cells ls hL hM hq hc
        obtain ⟨cell, q1, q2, q3, q4, q5, q6, q7⟩ := arr_get hM (by decide) (by decide) hx hi
        exact W.lald B.1 hF.1 q1 (State.isArrayOf_alike hW.alike q2) q3 q4 (q7 _ q6) rfl rfl hd (kk H locs cells ls hL hM hq hc)
      · cases h
    · cases h
  · cases h
theorem sim_aaload (B : Base p s0 a0 dC dI ad sv) (hW : s0.WarmedH s.vm) (hF : FrK k s m meth c) (hk : k < nM) (hri : ri k pc = some (.aaload, nx, a, b, c1, v)) (h : stp sv (.aaload) nx a b v pc L S M = some (pc', L', S', M'))
    (kk : Go p l e R s m args below meth c Q s0 ad dC dI b0 pc' L' S' M') : Go p l e R s m args below meth c Q s0 ad dC dI b0 pc L S M := by
  obtain ⟨hd, hle, hsw, hw⟩ := good_of hk hri
  obtain rfl : nx = pc + 1 := by simpa [isSw, lenOf] using hsw
  have hd : decode (mB k) pc = .ok (.aaload, 1) := by simpa using hd
  simp only [stp, sRld] at h
  split at h
  · rename_i i x S
    split at h
    · rename_i kx nx' hx
      split at h
      · rename_i hka
        obtain ⟨rfl, hi⟩ := hka
        simp only [Option.some.injEq, Prod.mk.injEq] at h
        obtain ⟨rfl, rfl, rfl, rfl⟩ := h
        intro H locs cells ls hL hM hq hc
        obtain ⟨cell, q1, q2, q3, q4, q5, q6, q7⟩ := arr_get hM (by decide) (by decide) hx hi
        exact W.aald B.1 hF.1 q1 (State.isArrayOf_alike hW.alike q2) rfl q3 q4 (q7 _ q6) rfl rfl hd (kk H locs cells ls hL hM hq hc)
      · cases h
    · cases h
  · cases h
/-- a store into an array -/
theorem WR.ast (B : Base p s0 a0 dC dI ad sv) {kd n x : Nat} {H H' : Heap} (hM : WR s0 ad dC dI M H) (h1 : 100 ≤ kd) (h2 : kd ≤ 103) (hx : M.2.2.2[x]? = some (kd, n)) (hn : nOld ≤ x) {j : Nat} {w : Value} {cell : Cell} (hcell : H[ad x]? = some cell) (harr : s0.isArrayOf cell (kTy kd)) (hkn : cell.vm ≠ .unknown) (hsz : cell.slots.size = n) (hel : ∀ i, i < n → cell.slots[i]? = some (rv ad (elt M kd x i)))
    (hM' : M'.2.2.2 = M.2.2.2) (hoff : ∀ y, y ≠ x → ∀ j, M'.1 y j = M.1 y j ∧ M'.2.1 y j = M.2.1 y j ∧ M'.2.2.1 y j = M.2.2.1 y j) (hj : j < n) (e1 : elt M' kd x j = w) (e2 : ∀ i, i ≠ j → elt M' kd x i = elt M kd x i)
    (g1 : H'[ad x]? = some (cell.setSlot j (rv ad w))) (g2 : H'.size = H.size) (g3 : ∀ q, q ≠ ad x → H'[q]? = H[q]?) : WR s0 ad dC dI M' H' := by
  refine hM.put B.2.2.2.2.1 hx hn hM' hoff g2 g3 (fun q => by omega) (fun _ _ => ?_)
  refine ⟨_, g1, harr, hkn, by simp [Cell.setSlot, hsz], fun i hi => ?_⟩
  by_cases hij : i = j
  · subst hij
    rw [setSlot_same (hel i hi), e1]
  · rw [setSlot_other hij, hel i hi, e2 i hij]
theorem locs_app {locs : List Loc} {x : Nat} {i : Nat} {N : Nat} (h : ∀ q ∈ locs, N ≤ q.base) (hx : N ≤ x) : ∀ q ∈ locs ++ [⟨x, i⟩], N ≤ q.base := by
  intro q hq
  rcases List.mem_append.mp hq with h9 | h9
  · exact h q h9
  · rw [List.mem_singleton.mp h9]; exact hx
theorem upI_off {f : Nat → Nat → Int32} {x j : Nat} {z : Int32} {y i : Nat} (h : y ≠ x) : upI f x j z y i = f y i := if_neg (fun q => h q.1)
theorem upI_at {f : Nat → Nat → Int32} {x j : Nat} {z : Int32} : upI f x j z x j = z := if_pos ⟨rfl, rfl⟩
theorem upI_ne {f : Nat → Nat → Int32} {x j : Nat} {z : Int32} {y i : Nat} (h : i ≠ j) : upI f x j z y i = f y i := if_neg (fun q => h q.2)
theorem upL_off {f : Nat → Nat → Int64} {x j : Nat} {z : Int64} {y i : Nat} (h : y ≠ x) : upL f x j z y i = f y i := if_neg (fun q => h q.1)
theorem upL_at {f : Nat → Nat → Int64} {x j : Nat} {z : Int64} : upL f x j z x j = z := if_pos ⟨rfl, rfl⟩
theorem upL_ne {f : Nat → Nat → Int64} {x j : Nat} {z : Int64} {y i : Nat} (h : i ≠ j) : upL f x j z y i = f y i := if_neg (fun q => h q.2)
theorem upR_off {f : Nat → Nat → Value} {x j : Nat} {z : Value} {y i : Nat} (h : y ≠ x) : upR f x j z y i = f y i := if_neg (fun q => h q.1)
theorem upR_at {f : Nat → Nat → Value} {x j : Nat} {z : Value} : upR f x j z x j = z := if_pos ⟨rfl, rfl⟩
theorem upR_ne {f : Nat → Nat → Value} {x j : Nat} {z : Value} {y i : Nat} (h : i ≠ j) : upR f x j z y i = f y i := if_neg (fun q => h q.2)
theorem sim_iastore (B : Base p s0 a0 dC dI ad sv) (hW : s0.WarmedH s.vm) (hF : FrK k s m meth c) (hk : k < nM) (hri : ri k pc = some (.iastore, nx, a, b, c1, v)) (h : stp sv (.iastore) nx a b v pc L S M = some (pc', L', S', M'))
    (kk : Go p l e R s m args below meth c Q s0 ad dC dI b0 pc' L' S' M') : Go p l e R s m args below meth c Q s0 ad dC dI b0 pc L S M := by
  obtain ⟨hd, hle, hsw, hw⟩ := good_of hk hri
  obtain rfl : nx = pc + 1 := by simpa [isSw, lenOf] using hsw
  have hd : decode (mB k) pc = .ok (.iastore, 1) := by simpa using hd
  simp only [stp, sAst] at h
  split at h
  · rename_i z i x S
    split at h
    · rename_i kx nx' hx
      split at h
      · rename_i hka
        obtain ⟨rfl, hn, hi⟩ := hka
        simp only [Option.some.injEq, Prod.mk.injEq] at h
        obtain ⟨rfl, rfl, rfl, rfl⟩ := h
        intro H locs cells ls hL hM hq hc
        obtain ⟨cell, q1, q2, q3, q4, q5, q6, q7⟩ := arr_get hM (by decide) (by decide) hx hi
        refine W.iast B.1 hF.1 q1 (State.isArrayOf_alike hW.alike q2) q3 q4 rfl rfl hd (fun H' g1 g2 g3 => ?_)
        exact kk H' _ cells ls hL (WR.ast B hM (kd := 100) (w := .int z) (by decide) (by decide) hx hn q1 q2 q3 q5 q7 rfl (fun y hy j => ⟨upI_off hy, rfl, rfl⟩) q6 (by simp only [elt]; rw [upI_at]) (fun i9 hi9 => by simp only [elt]; rw [upI_ne hi9]) g1 g2 g3) (locs_app hq (by rw [B.2.2.2.2.1.1 x hn]; omega)) hc
      · cases h
    · cases h
  · cases h
theorem sim_bastore (B : Base p s0 a0 dC dI ad sv) (hW : s0.WarmedH s.vm) (hF : FrK k s m meth c) (hk : k < nM) (hri : ri k pc = some (.bastore, nx, a, b, c1, v)) (h : stp sv (.bastore) nx a b v pc L S M = some (pc', L', S', M'))
    (kk : Go p l e R s m args below meth c Q s0 ad dC dI b0 pc' L' S' M') : Go p l e R s m args below meth c Q s0 ad dC dI b0 pc L S M := by
  obtain ⟨hd, hle, hsw, hw⟩ := good_of hk hri
  obtain rfl : nx = pc + 1 := by simpa [isSw, lenOf] using hsw
  have hd : decode (mB k) pc = .ok (.bastore, 1) := by simpa using hd
  simp only [stp, sAst] at h
  split at h
  · rename_i z i x S
    split at h
    · rename_i kx nx' hx
      split at h
      · rename_i hka
        obtain ⟨rfl, hn, hi⟩ := hka
        simp only [Option.some.injEq, Prod.mk.injEq] at h
        obtain ⟨rfl, rfl, rfl, rfl⟩ := h
        intro H locs cells ls hL hM hq hc
        obtain ⟨cell, q1, q2, q3, q4, q5, q6, q7⟩ := arr_get hM (by decide) (by decide) hx hi
        refine W.bast B.1 hF.1 q1 (State.isArrayOf_alike hW.alike q2) q3 q4 rfl rfl hd (fun H' g1 g2 g3 => ?_)
        exact kk H' _ cells ls hL (WR.ast B hM (kd := 101) (w := .int z.toInt8.toInt32) (by decide) (by decide) hx hn q1 q2 q3 q5 q7 rfl (fun y hy j => ⟨upI_off hy, rfl, rfl⟩) q6 (by simp only [elt]; rw [upI_at]) (fun i9 hi9 => by simp only [elt]; rw [upI_ne hi9]) g1 g2 g3) (locs_app hq (by rw [B.2.2.2.2.1.1 x hn]; omega)) hc
      · cases h
    · cases h
  · cases h
theorem sim_lastore (B : Base p s0 a0 dC dI ad sv) (hW : s0.WarmedH s.vm) (hF : FrK k s m meth c) (hk : k < nM) (hri : ri k pc = some (.lastore, nx, a, b, c1, v)) (h : stp sv (.lastore) nx a b v pc L S M = some (pc', L', S', M'))
    (kk : Go p l e R s m args below meth c Q s0 ad dC dI b0 pc' L' S' M') : Go p l e R s m args below meth c Q s0 ad dC dI b0 pc L S M := by
  obtain ⟨hd, hle, hsw, hw⟩ := good_of hk hri
  obtain rfl : nx = pc + 1 := by simpa [isSw, lenOf] using hsw
  have hd : decode (mB k) pc = .ok (.lastore, 1) := by simpa using hd
  simp only [stp, sLst] at h
  split at h
  · rename_i z i x S
    split at h
    · rename_i kx nx' hx
      split at h
      · rename_i hka
        obtain ⟨rfl, hn, hi⟩ := hka
        simp only [Option.some.injEq, Prod.mk.injEq] at h
        obtain ⟨rfl, rfl, rfl, rfl⟩ := h
        intro H locs cells ls hL hM hq hc
        obtain ⟨cell, q1, q2, q3, q4, q5, q6, q7⟩ := arr_get hM (by decide) (by decide) hx hi
        refine W.last B.1 hF.1 q1 (State.isArrayOf_alike hW.alike q2) q3 q4 rfl rfl hd (fun H' g1 g2 g3 => ?_)
        exact kk H' _ cells ls hL (WR.ast B hM (kd := 102) (w := .long z) (by decide) (by decide) hx hn q1 q2 q3 q5 q7 rfl (fun y hy j => ⟨rfl, upL_off hy, rfl⟩) q6 (by simp only [elt]; rw [upL_at]) (fun i9 hi9 => by simp only [elt]; rw [upL_ne hi9]) g1 g2 g3) (locs_app hq (by rw [B.2.2.2.2.1.1 x hn]; omega)) hc
      · cases h
    · cases h
  · cases h
theorem sim_tableswitch {df lo hi : Int} {offs : Array Int} (B : Base p s0 a0 dC dI ad sv) (hW : s0.WarmedH s.vm) (hF : FrK k s m meth c) (hk : k < nM) (hri : ri k pc = some (.tableswitch df lo hi offs, nx, a, b, c1, v)) (h : stp sv (.tableswitch df lo hi offs) nx a b v pc L S M = some (pc', L', S', M'))
    (kk : Go p l e R s m args below meth c Q s0 ad dC dI b0 pc' L' S' M') : Go p l e R s m args below meth c Q s0 ad dC dI b0 pc L S M := by
  obtain ⟨hd, hle, hsw, hw⟩ := good_of hk hri
  simp only [wordB, Bool.and_eq_true, decide_eq_true_eq, List.all_eq_true] at hw
  obtain ⟨⟨w1, w2⟩, w3⟩ := hw
  simp only [stp, sSw] at h
  split at h
  · rename_i x S
    simp only [Option.some.injEq, Prod.mk.injEq] at h
    obtain ⟨rfl, rfl, rfl, rfl⟩ := h
    intro H locs cells ls hL hM hq hc
    have kk := kk H locs cells ls hL hM hq hc
    by_cases hx : x.toInt < lo ∨ hi < x.toInt
    · refine lv_tableOut B.1 hF.1 hd hx (tgt := swT pc df lo hi offs x) ?_ kk
      rw [swT, if_pos hx]
      omega
    · have h1 : ¬ x.toInt < lo := fun q => hx (Or.inl q)
      have h2 : ¬ hi < x.toInt := fun q => hx (Or.inr q)
      have hlt : (x.toInt - lo).toNat < offs.size := by omega
      refine lv_tableIn B.1 hF.1 hd h1 h2 (off := offs[(x.toInt - lo).toNat]) (Array.getElem?_eq_getElem hlt) (tgt := swT pc df lo hi offs x) ?_ kk
      have hge := w2 offs[(x.toInt - lo).toNat] (by simp)
      rw [swT, if_neg hx]
      have hg : offs.getD (x.toInt - lo).toNat 0 = offs[(x.toInt - lo).toNat] := by simp [Array.getD, hlt]
      rw [hg]
      omega
  · cases h
end SH
end
section
/-! fields are written, objects and arrays are made -/
set_option maxRecDepth 100000 in
theorem lay_ok : lays_ok := by
  intro k hk
  match k, hk with
  | 0, _ => decide +kernel
  | 1, _ => decide +kernel
  | 2, _ => decide +kernel
  | 3, _ => decide +kernel
  | 4, _ => decide +kernel
  | 5, _ => decide +kernel
  | 6, _ => decide +kernel
  | 7, _ => decide +kernel
  | 8, _ => decide +kernel
  | 9, _ => decide +kernel
  | 10, _ => decide +kernel
  | 11, _ => decide +kernel
  | k + 12, h => omega
set_option maxRecDepth 100000 in
theorem inst_ok : ∀ k, k < 12 → Cond.instantiable (fR k) (insts k) ∈ lw_tbl ∧ Cond.initialized (fR k) ∈ lw_tbl := by
  intro k hk
  match k, hk with
  | 0, _ => exact ⟨by decide +kernel, by decide +kernel⟩
  | 1, _ => exact ⟨by decide +kernel, by decide +kernel⟩
  | 2, _ => exact ⟨by decide +kernel, by decide +kernel⟩
  | 3, _ => exact ⟨by decide +kernel, by decide +kernel⟩
  | 4, _ => exact ⟨by decide +kernel, by decide +kernel⟩
  | 5, _ => exact ⟨by decide +kernel, by decide +kernel⟩
  | 6, _ => exact ⟨by decide +kernel, by decide +kernel⟩
  | 7, _ => exact ⟨by decide +kernel, by decide +kernel⟩
  | 8, _ => exact ⟨by decide +kernel, by decide +kernel⟩
  | 9, _ => exact ⟨by decide +kernel, by decide +kernel⟩
  | 10, _ => exact ⟨by decide +kernel, by decide +kernel⟩
  | 11, _ => exact ⟨by decide +kernel, by decide +kernel⟩
  | k + 12, h => omega
set_option maxRecDepth 100000 in
theorem arrc_ok : Cond.arrayClass .int ∈ lw_tbl ∧ Cond.arrayClass .byte ∈ lw_tbl ∧ Cond.arrayClass .long ∈ lw_tbl ∧ Cond.arrayOver (.array .int) ∈ lw_tbl := ⟨by decide +kernel, by decide +kernel, by decide +kernel, by decide +kernel⟩
theorem fY_ok : ∀ k, k < 12 → ∀ j, j < fN k → parseFieldDescriptor (fT k j).2.2.1 = some (fY k j) := by
  intro k hk
  match k, hk with
  | 0, _ => exact tyX0_ok
  | 1, _ => exact tyX1_ok
  | 2, _ => exact tyX2_ok
  | 3, _ => exact tyX3_ok
  | 4, _ => exact tyX4_ok
  | 5, _ => exact tyX5_ok
  | 6, _ => exact tyX6_ok
  | 7, _ => exact tyX7_ok
  | 8, _ => exact tyX8_ok
  | 9, _ => exact tyX9_ok
  | 10, _ => exact tyX10_ok
  | 11, _ => exact tyX11_ok
  | k + 12, h => omega
theorem fNm_ok : ∀ k, k < 12 → ∀ i, i < fN k → ∀ j, j < fN k → i ≠ j → (fT k i).2.1 ≠ (fT k j).2.1 := by
  intro k hk
  match k, hk with
  | 0, _ => exact nmX0
  | 1, _ => exact nmX1
  | 2, _ => exact nmX2
  | 3, _ => exact nmX3
  | 4, _ => exact nmX4
  | 5, _ => exact nmX5
  | 6, _ => exact nmX6
  | 7, _ => exact nmX7
  | 8, _ => exact nmX8
  | 9, _ => exact nmX9
  | 10, _ => exact nmX10
  | 11, _ => exact nmX11
  | k + 12, h => omega
/-- of the own kinds: an int, a long, an object or an array -/
def plainT (t : FieldType) : Bool := match t with
  | .int => true | .long => true | .object _ => true | .array _ => true | _ => false
theorem plainT_ok : ∀ k, k < 12 → ∀ j, j < fN k → plainT (fY k j) = true := by decide +kernel
theorem fld_default {M : Mem} {k x j : Nat} (hk : k < 12) (hj : j < fN k) (h : M.1 x j = 0 ∧ M.2.1 x j = 0 ∧ M.2.2.1 x j = .null) (ad : Nat → Nat) : rv ad (fld M k x j) = defaultValue (fY k j) := by
  have hp := plainT_ok k hk j hj
  unfold fld fK
  cases ht : fY k j <;> rw [ht] at hp <;> simp [plainT] at hp <;> simp [tK, h.1, h.2.1, h.2.2, rv, defaultValue]
section SM
variable {p : Program} {l : Launch} {e : Env} {R : Room} {s : State} {m : MethodId} {args : Array Value} {below : List Frame} {meth : Method} {c : Code} {Q : State → Prop}
variable {s0 : State} {a0 : Array Value} {dC : Nat → ClassId} {dI : Nat → Nat → Nat} {ad : Nat → Nat} {sv : Nat → Value}
variable {k pc nx a b c1 b0 pc' : Nat} {v : Int64} {L L' : Loc1} {S S' : List Value} {M M' : Mem}
theorem dI_apart (B : Base p s0 a0 dC dI ad sv) {k : Nat} (hk : k < 12) {i j : Nat} (hi : i < fN k) (hj : j < fN k) (hne : i ≠ j) : dI k i ≠ dI k j := by
  obtain ⟨hS, -⟩ := B.2.2.1 k hk
  obtain ⟨_, _, _, fa, hia, ea⟩ := hS i hi
  obtain ⟨_, _, _, fb, hib, eb⟩ := hS j hj
  rw [← ea, ← eb]
  refine u_apart (u_lays B.2.1 (lay_ok k hk) hi) (u_lays B.2.1 (lay_ok k hk) hj) hia hib ?_
  rw [(State.fieldFound?_type hia (fY_ok k hk i hi)).1, (State.fieldFound?_type hib (fY_ok k hk j hj)).1]
  exact fNm_ok k hk i hi j hj hne
/-- the store itself, whichever link the class has -/
theorem put_core {idx : Nat} {H : Heap} {locs : List Loc} {cells : Nat} {ls : Array Slot} {x : Nat} {w : Value} {rest : List Value} (B : Base p s0 a0 dC dI ad sv) (hW : s0.WarmedH s.vm) (hF : FrK k s m meth c) (ha : a < 12) (hb : b < fN a) (hlink : hitF (mY k).cls idx a b c1 = true)
    (hfin : (fT a b).2.2.2 = false ∨ ((mY k).name = "<init>" ∧ (fT a b).1 = (mY k).cls ∧ isNest c1 = false)) (hd : decode (mB k) pc = .ok (.putfield idx, 3)) {cell : Cell} (q1 : H[ad x]? = some cell) (q2 : cell.cls = dC a) (q3 : cell.vm = .none) {z : Value} (q4 : cell.slots[dI a b]? = some z)
    (hn : narrow (fY a b) w = w) (hfit : fits (fY a b) w = true)
    (kk : ∀ H' : Heap, H'[ad x]? = some (cell.setSlot (dI a b) w) → H'.size = H.size → (∀ q, q ≠ ad x → H'[q]? = H[q]?) → W p l e R s m args below meth c H' (locs ++ [⟨ad x, dI a b⟩]) cells (1000 * cells) Q (F0 m (pc + 3) ls rest)) :
    W p l e R s m args below meth c H locs cells (1000 * cells) Q (F0 m pc ls (w :: .ref (ad x) :: rest)) := by
  obtain ⟨hS, hfc, kC, hkC, hkind⟩ := wdK B hW ha
  obtain ⟨cf, kf, fi, f, hi, hsl⟩ := hS b hb
  have hw0 := lay_ok a ha _ (u_in_lay hb)
  have hlt : f.slot < cell.slots.size := by rw [hsl]; exact k2_hasslot q4
  have hty := fY_ok a ha b hb
  have hown := hF.2.2.2.2.1
  by_cases hfi : (fT a b).2.2.2 = true
  · have hl : (Cond.laysFinal (fR a) (fT a b).1 (fT a b).2.1 (fT a b).2.2.1).before args s = true := by
      unfold u_lay at hw0
      rw [if_pos hfi] at hw0
      exact wd B hW hw0 rfl
    have hst := (u_facts hfc hkC (Or.inr hl) hi).1
    rcases hfin with h0 | ⟨h1, h2, h3⟩
    · rw [h0] at hfi; cases hfi
    have hcf : m.cls = cf := by
      obtain ⟨_, _, c', _, _, _, -, -, hf', -, -, -, hown2, -⟩ := Cond.laysFinal_spec hl
      have e1 : c' = cf := by have := hi.symm.trans hf'; simp at this; exact this.1.symm
      rw [h2] at hown2
      rw [← e1]; exact Option.some.inj (hown.symm.trans hown2)
    have h6 := u_fits hfc hkC hkind (Or.inr hl) hi hty hn hfit
    rcases hitF_link (args := args) B hW hlink with ⟨-, g1⟩ | ⟨g0, -⟩
    · refine W.putFinK B.1 hF.1 hown g1 hi hst hcf (hF.2.2.2.2.2.1.trans h1) (by rw [q2]; exact h6) q1 q3 hlt rfl rfl hd fun H' e1 e2 e3 => ?_
      rw [hsl] at e1 ⊢
      exact kk H' e1 e2 e3
    · rw [h3] at g0; cases g0
  · have hfi0 : (fT a b).2.2.2 = false := by simpa using hfi
    have hl : (Cond.lays (fR a) (fT a b).1 (fT a b).2.1 (fT a b).2.2.1).before args s = true := by
      unfold u_lay at hw0
      rw [if_neg hfi] at hw0
      exact wd B hW hw0 rfl
    have hst := (u_facts hfc hkC (Or.inl hl) hi).1
    have h6 := u_store hfc hkC hkind hl hi hty hn hfit
    rcases hitF_link (args := args) B hW hlink with ⟨-, g1⟩ | ⟨-, hh, g1⟩
    · refine W.putK B.1 hF.1 (f := f) ⟨hown, g1, ⟨_, _, _, hi⟩, hst⟩ (by rw [q2]; exact h6) q1 q3 hlt rfl rfl hd fun H' e1 e2 e3 => ?_
      rw [hsl] at e1 ⊢
      exact kk H' e1 e2 e3
    · refine va_WputK B.1 hF.1 (f := f) hown g1 hi hst (by rw [q2]; exact h6) q1 q3 hlt rfl rfl hd fun H' e1 e2 e3 => ?_
      rw [hsl] at e1 ⊢
      exact kk H' e1 e2 e3
theorem WR.pst (B : Base p s0 a0 dC dI ad sv) {H H' : Heap} {x n : Nat} {w : Value} (hM : WR s0 ad dC dI M H) (ha : a < 12) (hb : b < fN a) (hx : M.2.2.2[x]? = some (a, n)) (hn : nOld ≤ x) {cell : Cell} (q2 : cell.cls = dC a) (q3 : cell.vm = .none) (q6 : ∀ j, j < fN a → cell.slots[dI a j]? = some (rv ad (fld M a x j)))
    (hM' : M'.2.2.2 = M.2.2.2) (hoff : ∀ y, y ≠ x → ∀ j, M'.1 y j = M.1 y j ∧ M'.2.1 y j = M.2.1 y j ∧ M'.2.2.1 y j = M.2.2.1 y j) (e1 : fld M' a x b = w) (e2 : ∀ j, j ≠ b → fld M' a x j = fld M a x j)
    (g1 : H'[ad x]? = some (cell.setSlot (dI a b) (rv ad w))) (g2 : H'.size = H.size) (g3 : ∀ q, q ≠ ad x → H'[q]? = H[q]?) : WR s0 ad dC dI M' H' := by
  refine hM.put B.2.2.2.2.1 hx hn hM' hoff g2 g3 (fun _ => ?_) (fun h _ => by omega)
  refine ⟨_, g1, q2, (isNot_statics q3).1, (isNot_statics q3).2, fun _ => q3, fun j hj => ?_⟩
  by_cases hjb : j = b
  · subst hjb
    rw [setSlot_same (q6 j hj), e1]
  · rw [setSlot_other (dI_apart B ha hj hb hjb), q6 j hj, e2 j hjb]
theorem sim_putfield {idx : Nat} (B : Base p s0 a0 dC dI ad sv) (hW : s0.WarmedH s.vm) (hF : FrK k s m meth c) (hk : k < nM) (hri : ri k pc = some (.putfield idx, nx, a, b, c1, v)) (h : stp sv (.putfield idx) nx a b v pc L S M = some (pc', L', S', M'))
    (kk : Go p l e R s m args below meth c Q s0 ad dC dI b0 pc' L' S' M') : Go p l e R s m args below meth c Q s0 ad dC dI b0 pc L S M := by
  obtain ⟨hd, hle, hsw, hw⟩ := good_of hk hri
  obtain rfl : nx = pc + 3 := by simpa [isSw, lenOf] using hsw
  have hd : decode (mB k) pc = .ok (.putfield idx, 3) := by simpa using hd
  simp only [wordB, Bool.and_eq_true, Nat.blt_eq, Bool.or_eq_true, Bool.not_eq_true', decide_eq_true_eq] at hw
  obtain ⟨⟨⟨ha, hbn⟩, hw⟩, hfin⟩ := hw
  have hfin' : (fT a b).2.2.2 = false ∨ ((mY k).name = "<init>" ∧ (fT a b).1 = (mY k).cls ∧ isNest c1 = false) := by
    rcases hfin with h0 | ⟨⟨h1, h2⟩, h3⟩
    · exact Or.inl h0
    · exact Or.inr ⟨h1, h2, h3⟩
  simp only [stp, sPut] at h
  split at h
  · rename_i v9 x S
    split at h
    · rename_i kx nx' hx
      split at h
      · rename_i hka
        obtain ⟨rfl, hn⟩ := hka
        intro H locs cells ls hL hM hq hc
        obtain ⟨cell, q1, q2, q3, q4, q5, q6⟩ := (hM.2.2.1 x kx nx' hx).1 (by omega)
        have q5 := q5 hn
        have hp := plainT_ok kx ha b hbn
        have hloc := locs_app (i := dI kx b) hq (show s0.heap.size ≤ ad x by rw [B.2.2.2.2.1.1 x hn]; omega)
        split at h
        · rename_i z hK
          simp only [Option.some.injEq, Prod.mk.injEq] at h
          obtain ⟨rfl, rfl, rfl, rfl⟩ := h
          have ht : fY kx b = .int := by
            unfold fK at hK
            cases ht : fY kx b <;> rw [ht] at hp hK <;> simp [plainT, tK] at hp hK
          refine put_core (w := .int z) B hW hF ha hbn hw hfin' hd q1 q2 q5 (q6 b hbn) (by rw [ht]; rfl) (by rw [ht]; rfl) (fun H' g1 g2 g3 => ?_)
          refine kk H' _ cells ls hL (WR.pst B hM ha hbn hx hn q2 q5 q6 (M' := (upI M.1 x b z, M.2)) rfl (fun y hy j => ⟨upI_off hy, rfl, rfl⟩) (w := .int z) ?_ ?_ g1 g2 g3) hloc hc
          · unfold fld; rw [hK]; show Value.int (upI M.1 x b z x b) = _; rw [upI_at]
          · intro j hj
            exact fld_same ⟨upI_ne hj, rfl, rfl⟩
        · rename_i z hK
          simp only [Option.some.injEq, Prod.mk.injEq] at h
          obtain ⟨rfl, rfl, rfl, rfl⟩ := h
          have ht : fY kx b = .long := by
            unfold fK at hK
            cases ht : fY kx b <;> rw [ht] at hp hK <;> simp [plainT, tK] at hp hK
          refine put_core (w := .long z) B hW hF ha hbn hw hfin' hd q1 q2 q5 (q6 b hbn) (by rw [ht]; rfl) (by rw [ht]; rfl) (fun H' g1 g2 g3 => ?_)
          refine kk H' _ cells ls hL (WR.pst B hM ha hbn hx hn q2 q5 q6 (M' := (M.1, upL M.2.1 x b z, M.2.2)) rfl (fun y hy j => ⟨rfl, upL_off hy, rfl⟩) (w := .long z) ?_ ?_ g1 g2 g3) hloc hc
          · unfold fld; rw [hK]; show Value.long (upL M.2.1 x b z x b) = _; rw [upL_at]
          · intro j hj
            exact fld_same ⟨rfl, upL_ne hj, rfl⟩
        · rename_i z hK
          simp only [Option.some.injEq, Prod.mk.injEq] at h
          obtain ⟨rfl, rfl, rfl, rfl⟩ := h
          have ht : narrow (fY kx b) (.ref (ad z)) = .ref (ad z) ∧ fits (fY kx b) (.ref (ad z)) = true := by
            unfold fK at hK
            cases ht : fY kx b <;> rw [ht] at hp hK <;> simp [plainT, tK] at hp hK <;> exact ⟨rfl, rfl⟩
          refine put_core (w := .ref (ad z)) B hW hF ha hbn hw hfin' hd q1 q2 q5 (q6 b hbn) ht.1 ht.2 (fun H' g1 g2 g3 => ?_)
          refine kk H' _ cells ls hL (WR.pst B hM ha hbn hx hn q2 q5 q6 (M' := (M.1, M.2.1, upR M.2.2.1 x b (.ref z), M.2.2.2)) rfl (fun y hy j => ⟨rfl, rfl, upR_off hy⟩) (w := .ref z) ?_ ?_ g1 g2 g3) hloc hc
          · unfold fld; rw [hK]; show upR M.2.2.1 x b (.ref z) x b = _; rw [upR_at]
          · intro j hj
            exact fld_same ⟨rfl, rfl, upR_ne hj⟩
        · rename_i hK
          simp only [Option.some.injEq, Prod.mk.injEq] at h
          obtain ⟨rfl, rfl, rfl, rfl⟩ := h
          have ht : narrow (fY kx b) .null = .null ∧ fits (fY kx b) .null = true := by
            unfold fK at hK
            cases ht : fY kx b <;> rw [ht] at hp hK <;> simp [plainT, tK] at hp hK <;> exact ⟨rfl, rfl⟩
          refine put_core (w := .null) B hW hF ha hbn hw hfin' hd q1 q2 q5 (q6 b hbn) ht.1 ht.2 (fun H' g1 g2 g3 => ?_)
          refine kk H' _ cells ls hL (WR.pst B hM ha hbn hx hn q2 q5 q6 (M' := (M.1, M.2.1, upR M.2.2.1 x b .null, M.2.2.2)) rfl (fun y hy j => ⟨rfl, rfl, upR_off hy⟩) (w := .null) ?_ ?_ g1 g2 g3) hloc hc
          · unfold fld; rw [hK]; show upR M.2.2.1 x b .null x b = _; rw [upR_at]
          · intro j hj
            exact fld_same ⟨rfl, rfl, upR_ne hj⟩
        · cases h
      · cases h
    · cases h
  · cases h
theorem sim_new {idx : Nat} (hR : RmC R b0) (B : Base p s0 a0 dC dI ad sv) (hW : s0.WarmedH s.vm) (hF : FrK k s m meth c) (hk : k < nM) (hri : ri k pc = some (.new idx, nx, a, b, c1, v)) (h : stp sv (.new idx) nx a b v pc L S M = some (pc', L', S', M'))
    (kk : Go p l e R s m args below meth c Q s0 ad dC dI b0 pc' L' S' M') : Go p l e R s m args below meth c Q s0 ad dC dI b0 pc L S M := by
  obtain ⟨hd, hle, hsw, hw⟩ := good_of hk hri
  obtain rfl : nx = pc + 3 := by simpa [isSw, lenOf] using hsw
  have hd : decode (mB k) pc = .ok (.new idx, 3) := by simpa using hd
  simp only [wordB, Bool.and_eq_true, Nat.blt_eq, decide_eq_true_eq] at hw
  obtain ⟨ha, hw⟩ := hw
  simp only [stp, sNew] at h
  split at h
  · rename_i hlen
    simp only [Option.some.injEq, Prod.mk.injEq] at h
    obtain ⟨rfl, rfl, rfl, rfl⟩ := h
    intro H locs cells ls hL hM hq hc
    obtain ⟨⟨w1, w2, w3⟩, w4, w5, w6, w7⟩ := id hM
    have hK := wdK B hW ha
    have hin : insts a ≤ 900 := by
      have : ∀ a, a < 12 → insts a ≤ 900 := by decide
      exact this a ha
    obtain ⟨r1, r2⟩ := hR
    refine W.newcK B.1 hF.1 hF.2.2.2.2.1 (wd B hW (tbW_in hw) rfl) (wd B hW (inst_ok a ha).1 rfl) (wd B hW (inst_ok a ha).2 rfl) (cC := dC a) rfl hd (by omega) (by omega) hK.2.1 rfl (fun H' kC g0 g1 g2 g3 => ?_)
    refine W.widen (k := cells + 1) (n := 1000 * (cells + 1)) (Nat.le_refl _) (by omega) ?_
    have had : ad M.2.2.2.length = H.size := by rw [B.2.2.2.2.1.1 _ w1]; omega
    have hob : t_OB H.size (dC a) (fN a) (dI a) H' (fun j => defaultValue (fY a j)) := u_born (args := args) (ws := u_ws (fR a) (fT a) (fN a)) (fY a) (fun w hw9 => by
      have hm := lay_ok a ha w hw9
      obtain ⟨j, hj, rfl⟩ := List.mem_map.mp hw9
      refine wd B hW hm ?_
      unfold u_lay
      split <;> rfl) (fun w h => h) hK g0 g1 (fY_ok a ha)
    have := kk H' locs (cells + 1) ls hL (hM.grow B.2.2.2.2.1 [(a, 0)] (M' := (M.1, M.2.1, M.2.2.1, M.2.2.2 ++ [(a, 0)])) rfl (by simp; omega) (fun y hy j => ⟨rfl, rfl, rfl⟩) (fun y hy j => w6 y (by simp at hy; omega) j) (by simp [g2]) g3 (fun i k9 n9 hi => ?_)) hq (by simp; omega)
    · rw [← had]
      exact this
    · match i, hi with
      | 0, hi =>
        simp at hi
        obtain ⟨rfl, rfl⟩ := hi
        refine ⟨fun _ => ?_, fun h9 _ => by omega⟩
        obtain ⟨cell, o1, o2, o3, o4⟩ := hob
        refine ⟨cell, by rw [Nat.add_zero, had]; exact o1, o2, (isNot_statics o3).1, (isNot_statics o3).2, fun _ => o3, fun j hj => ?_⟩
        rw [o4 j hj]
        exact congrArg some (fld_default (M := (M.1, M.2.1, M.2.2.1, M.2.2.2 ++ [(a, 0)])) ha hj (w6 (M.2.2.2.length + 0) (by omega) j) ad).symm
  · cases h
theorem sim_newarray {t : ArrayType} (hR : RmC R b0) (B : Base p s0 a0 dC dI ad sv) (hW : s0.WarmedH s.vm) (hF : FrK k s m meth c) (hk : k < nM) (hri : ri k pc = some (.newarray t, nx, a, b, c1, v)) (h : stp sv (.newarray t) nx a b v pc L S M = some (pc', L', S', M'))
    (kk : Go p l e R s m args below meth c Q s0 ad dC dI b0 pc' L' S' M') : Go p l e R s m args below meth c Q s0 ad dC dI b0 pc L S M := by
  obtain ⟨hd, hle, hsw, hw⟩ := good_of hk hri
  obtain rfl : nx = pc + 2 := by simpa [isSw, lenOf] using hsw
  have hd : decode (mB k) pc = .ok (.newarray t, 2) := by simpa using hd
  simp only [stp, sNewA] at h
  split at h
  · rename_i n S
    split at h
    · rename_i hcond
      obtain ⟨hn0, hn9, hlen, hkd⟩ := hcond
      simp only [Option.some.injEq, Prod.mk.injEq] at h
      obtain ⟨rfl, rfl, rfl, rfl⟩ := h
      intro H locs cells ls hL hM hq hc
      obtain ⟨⟨w1, w2, w3⟩, w4, w5, w6, w7⟩ := id hM
      obtain ⟨r1, r2⟩ := hR
      have hT : (Cond.arrayClass (newarray.typeOf t)).before args s = true ∧ newarray.typeOf t = kTy (aKind t) ∧ 100 ≤ aKind t ∧ aKind t ≤ 103 ∧ componentBytes (newarray.typeOf t) ≤ 8 ∧ (∀ x j, M.2.2.2.length ≤ x → rv ad (elt M (aKind t) x j) = defaultValue (newarray.typeOf t)) := by
        cases t <;> simp [aKind] at hkd
        · exact ⟨wdA B hW arrc_ok.2.1, rfl, by decide, by decide, by decide, fun x j hx => by simp only [elt, aKind]; rw [(w6 x hx j).1]; rfl⟩
        · exact ⟨wdA B hW arrc_ok.1, rfl, by decide, by decide, by decide, fun x j hx => by simp only [elt, aKind]; rw [(w6 x hx j).1]; rfl⟩
        · exact ⟨wdA B hW arrc_ok.2.2.1, rfl, by decide, by decide, by decide, fun x j hx => by simp only [elt, aKind]; rw [(w6 x hx j).2.1]; rfl⟩
      obtain ⟨t1, t2, t3, t4, t5, t6⟩ := hT
      have hby : n.toNatClampNeg * componentBytes (newarray.typeOf t) ≤ 536870912 := Nat.le_trans (Nat.mul_le_mul hn9 t5) (by decide)
      refine W.newaK B.1 hF.1 t1 rfl hd rfl hn0 rfl hby (by omega) (by omega) rfl (fun H' cA g1 g2 g3 g4 => ?_)
      refine W.widen (k := cells + 1) (n := 1000 * (cells + 1)) (Nat.le_refl _) (by omega) ?_
      have had : ad M.2.2.2.length = H.size := by rw [B.2.2.2.2.1.1 _ w1]; omega
      have := kk H' locs (cells + 1) ls hL (hM.grow B.2.2.2.2.1 [(aKind t, n.toNatClampNeg)] (M' := (M.1, M.2.1, M.2.2.1, M.2.2.2 ++ [(aKind t, n.toNatClampNeg)])) rfl (by simp; omega) (fun y hy j => ⟨rfl, rfl, rfl⟩) (fun y hy j => w6 y (by simp at hy; omega) j) (by simp [g2]) g3 (fun i k9 n9 hi => ?_)) hq (by simp; omega)
      · rw [← had]
        exact this
      · match i, hi with
        | 0, hi =>
          simp at hi
          obtain ⟨rfl, rfl⟩ := hi
          refine ⟨fun h9 => by omega, fun _ _ => ?_⟩
          refine ⟨_, by rw [Nat.add_zero, had]; exact g1, ?_, (by simp [arrV]), arrV_size _ _ _, fun j hj => ?_⟩
          · rw [← t2]
            exact State.isArrayOf_alike hW.alike.symm (g4 _ _)
          · rw [arrV_read _ _ hj]
            exact congrArg some (t6 _ j (by omega)).symm
    · cases h
  · cases h
end SM
end
section
/-! calls -/
theorem okM_spec {k : Nat} (hk : k < 202) :
    ((Cond.code (mY k) (mB k) (mL k) (mR k) ∈ lw_tbl ∧ mH k = []) ∨ (Cond.codeWith (mY k) (mB k) (mL k) (mR k) (mH k) ∈ lw_tbl ∧ mH k ≠ [])) ∧
    ((mS k = 0 ∧ Cond.instanceMethod (mY k) ∈ lw_tbl ∧ ((mY k).name = "<init>" ∨ (Cond.selects (mY k).cls (mY k) (mY k) ∈ lw_tbl ∧ mK k < 13 ∧ fR (mK k) = (mY k).cls))) ∨ (mS k = 1 ∧ Cond.static (mY k) ∈ lw_tbl)) ∧
    Cond.initialized (mY k).cls ∈ lw_tbl ∧ plainFor (mY k) = true ∧ ((mY k).cls ≠ "java/lang/invoke/MethodHandle" ∧ (mY k).cls ≠ "java/lang/invoke/VarHandle") ∧
    (parseMethodDescriptor (mY k).desc).map (fun d => d.parameters.length) = some (mN k - (1 - mS k)) ∧ 1 - mS k ≤ mN k ∧ mL k ≤ 20 := by
  have h := okM_all k hk
  unfold okM at h
  simp only [Bool.and_eq_true, Bool.or_eq_true, decide_eq_true_eq, Nat.ble_eq, List.isEmpty_iff, Bool.not_eq_true', List.isEmpty_eq_false_iff] at h
  obtain ⟨⟨⟨⟨⟨⟨⟨h1, h2⟩, h3⟩, h4⟩, h5⟩, h6⟩, h7⟩, h8⟩ := h
  refine ⟨?_, ?_, tbW_in h3, h4, h5, h6, h7, h8⟩
  · rcases h1 with h1 | h1
    · exact Or.inl ⟨tbW_in h1.1, h1.2⟩
    · exact Or.inr ⟨tbW_in h1.1, h1.2⟩
  · cases hs : Nat.beq (mS k) 0 with
    | true =>
      rw [hs] at h2
      simp only [cond_true, Bool.and_eq_true, Bool.or_eq_true, decide_eq_true_eq, Nat.blt_eq] at h2
      refine Or.inl ⟨Nat.eq_of_beq_eq_true hs, tbW_in h2.1, ?_⟩
      rcases h2.2 with q | q
      · exact Or.inl q
      · exact Or.inr ⟨tbW_in q.1.1, q.1.2, q.2⟩
    | false =>
      rw [hs] at h2
      simp only [cond_false, Bool.and_eq_true, decide_eq_true_eq] at h2
      exact Or.inr ⟨Nat.eq_of_beq_eq_true h2.1, tbW_in h2.2⟩
theorem lgF_len (ad : Nat → Nat) : ∀ vs : List Value, (lg_sl (vs.map (rv ad))).length = (slotsOf vs).length
  | [] => rfl
  | v :: vs => by
    have ih := lgF_len ad vs
    unfold lg_sl slotsOf at *
    simp only [List.map_cons, List.flatMap_cons, List.length_append, ih, rv_cat]
    split <;> rfl
theorem lvF_args (ad : Nat → Nat) (r : Nat) : ∀ (vs : List Value) (i : Nat) (q : Nat × Value), q ∈ lvF ad i (slotsOf vs ++ List.replicate r none) → q ∈ lv_args i (vs.map (rv ad))
  | [], i, q, h => by
    obtain ⟨j, v, hj, -⟩ := (lvF_mem _ i q).mp h
    simp [slotsOf, List.getElem?_replicate] at hj
  | v :: vs, i, q, h => by
    have ih := lvF_args ad r vs
    have e : slotsOf (v :: vs) = (if v.category = 2 then [some v, none] else [some v]) ++ slotsOf vs := by
      simp only [slotsOf, List.flatMap_cons]
    rw [e] at h
    simp only [List.map_cons, lv_args, rv_cat, List.mem_cons]
    by_cases hc : v.category = 2
    · rw [if_pos hc] at h ⊢
      simp only [List.cons_append, List.nil_append, lvF, List.mem_cons] at h
      rcases h with rfl | h
      · exact Or.inl rfl
      · exact Or.inr (ih (i + 1 + 1) q h)
    · rw [if_neg hc] at h ⊢
      simp only [List.cons_append, List.nil_append, lvF, List.mem_cons] at h
      rcases h with rfl | h
      · exact Or.inl rfl
      · exact Or.inr (ih (i + 1) q h)
theorem LR.entry {ad : Nat → Nat} {k : Nat} {vs : List Value} (h : (slotsOf vs).length ≤ mL k) : LR ad (entL k vs) ((lg_sl (vs.map (rv ad)) ++ List.replicate (mL k - (lg_sl (vs.map (rv ad))).length) Slot.unset).toArray) := by
  have h1 := lv_entry (vs.map (rv ad)) (n := mL k) (by rw [lgF_len]; exact h)
  refine ⟨?_, h1.2.1, fun q hq => h1.2.2 q (lvF_args ad _ vs 0 q hq)⟩
  rw [h1.1, entL, List.length_append, List.length_replicate]
  omega
def ro (ad : Nat → Nat) (o : Fin1) : Outcome := match o with
  | .inl v => .returned (v.map (rv ad))
  | .inr x => .threw (ad x)
/-- how a call that was made at the state s, over 'below', has ended -/
def PQ (s0 s : State) (below : List Frame) (ad : Nat → Nat) (dC : Nat → ClassId) (dI : Nat → Nat → Nat) (b0 : Nat) (o : Fin1) (M' : Mem) : State → Prop := fun t =>
  ∃ (L : List Loc) (c : Nat), t.status = .running ∧ Ended t below (ro ad o) ∧ s.WarmedH t.vm ∧ s.sameButNew ({ t with vm := s.vm } : State) L c (1000 * c) ∧ (∀ q ∈ L, s0.heap.size ≤ q.base) ∧ c + b0 = M'.2.2.2.length ∧ WR s0 ad dC dI M' t.heap
section SC
variable {p : Program} {l : Launch} {e : Env} {R : Room} {s : State} {m : MethodId} {args : Array Value} {below : List Frame} {meth : Method} {c : Code} {T : State} {locs : List Loc} {cells slots : Nat}
variable {s0 : State} {a0 : Array Value} {dC : Nat → ClassId} {dI : Nat → Nat → Nat} {ad : Nat → Nat} {sv : Nat → Value}
/-- the callee, as its words have it -/
theorem callee (B : Base p s0 a0 dC dI ad sv) (hW : s0.WarmedH s.vm) {a : Nat} (ha : a < 202) :
    ∃ mk methk ck, s.methodNamed? (mY a) = some mk ∧ s.vm.method? mk = some methk ∧ methk.code = some ck ∧ methk.locks = false ∧ FrK a s mk methk ck ∧ parseMethodDescriptor (mY a).desc = some methk.sig := by
  obtain ⟨h1, -⟩ := okM_spec ha
  rcases h1 with ⟨h1, hH⟩ | ⟨h1, -⟩
  · have hc : (Cond.code (mY a) (mB a) (mL a) (mR a)).before #[] s = true := wd B hW h1 rfl
    obtain ⟨mk, hn⟩ := Cond.code_named hc
    obtain ⟨methk, ck, c1, c2, c3, c4, c5, c6, c7, c8⟩ := Cond.code_spec hn hc
    refine ⟨mk, methk, ck, hn, c1, c2, c6, ⟨c3, c4, c5, c6, findClass_of_methodNamed hn, (name_of_methodNamed hn c1).1, ?_⟩, c8⟩
    rw [hH]
    have : ck.exceptionTable.toList = [] := by
      have := Array.isEmpty_iff.mp c7
      rw [this]
    rw [this]
    rfl
  · have hc : (Cond.codeWith (mY a) (mB a) (mL a) (mR a) (mH a)).before #[] s = true := wd B hW h1 rfl
    obtain ⟨mk, methk, ck, hn, c1, c2, c3, c4, c5, c6, c7, c8⟩ := Cond.codeWith_spec hc
    exact ⟨mk, methk, ck, hn, c1, c2, c7, ⟨c3, c4, c6, c7, findClass_of_methodNamed hn, (name_of_methodNamed hn c1).1, c5⟩, c8⟩
theorem hitM_link (B : Base p s0 a0 dC dI ad sv) (hW : s0.WarmedH s.vm) {own : String} {idx c1 : Nat} {y : MethodName} (h : hitM own idx y c1 = true) :
    (Cond.methodLink own idx y).before args s = true ∨ ∃ h, (Cond.methodLinkNest own idx y h).before args s = true := by
  unfold hitM at h
  split at h
  · rename_i o j z hq
    simp only [Bool.and_eq_true, decide_eq_true_eq, Nat.beq_eq] at h
    obtain ⟨⟨rfl, rfl⟩, rfl⟩ := h
    exact Or.inl (wd B hW (tbW_in hq) rfl)
  · rename_i o j z h9 hq
    simp only [Bool.and_eq_true, decide_eq_true_eq, Nat.beq_eq] at h
    obtain ⟨⟨rfl, rfl⟩, rfl⟩ := h
    exact Or.inr ⟨_, wdM B hW (tbW_in hq)⟩
  · cases h
/-- what an invoking instruction leads to: the callee is entered -/
def Inv1 (p : Program) (l : Launch) (e : Env) (R : Room) (s : State) (m : MethodId) (args : Array Value) (below : List Frame) (meth : Method) (c : Code) (T : State) (locs : List Loc) (cells slots : Nat) (a : Nat) (As rest : List Value) (g : JFrame) : Prop :=
  ∃ (vm₁ : Vm) (mk : MethodId), s.methodNamed? (mY a) = some mk ∧ Stand p l e R s m args below meth c (T.setVm vm₁) locs cells slots ∧
    ∀ target, (∀ acts, Steps p.tables e below (doInvoke e ((T.setVm vm₁).setTop { g with stack := rest }) acts mk As.toArray).1 target) → Steps p.tables e below (T.setTop g) target
theorem inv_virtual (B : Base p s0 a0 dC dI ad sv) (hW : s0.WarmedH s.vm) (X : Stand p l e R s m args below meth c T locs cells slots) {k a idx c1 : Nat} (hF : FrK k s m meth c) (ha : a < 202) (hS : mS a = 0) (hin : (mY a).name ≠ "<init>") (hl : hitM (mY k).cls idx (mY a) c1 = true)
    {g : JFrame} (hg : g.method = m) {b : Addr} {As rest : List Value} (hlen : As.length = mN a - 1) (hstack : g.stack = As.reverse ++ .ref b :: rest) (hdg : decode (mB k) g.pc = .ok (.invokevirtual idx, 3))
    {cellB : Cell} (hcell : T.heap[b]? = some cellB) (hobj : cellB.vm.isStatics = false) (hcls : s.vm.findClass (mY a).cls = some cellB.cls) : Inv1 p l e R s m args below meth c T locs cells slots a (.ref b :: As) rest g := by
  obtain ⟨-, h2, -, -, hy, hpar, -⟩ := okM_spec ha
  obtain ⟨mk, methk, ck, hn, c1', c2, c3, c4, c5⟩ := callee B hW ha
  rcases h2 with ⟨-, i1, i2⟩ | ⟨q, -⟩
  · rcases i2 with i2 | ⟨i2, i3, i4⟩
    · exact absurd i2 hin
    · have hinst : (Cond.instanceMethod (mY a)).before args s = true := wd B hW i1 rfl
      have hsel : (Cond.selects (mY a).cls (mY a) (mY a)).before args s = true := wd B hW i2 rfl
      obtain ⟨mk', methM, hnamed, hmethM, hstM, habM⟩ := Cond.instanceMethod_spec hinst
      cases hn.symm.trans hnamed
      cases c1'.symm.trans hmethM
      obtain ⟨c9, r2, m2, q1, q2, q3, q4, kP, hkP, hkPi⟩ := Cond.selects_spec hsel
      cases hcls.symm.trans q1
      cases (State.methodFound?_of_named hnamed hy).symm.trans q2
      cases hnamed.symm.trans q3
      have hselP : selectMethod e.platform s.vm cellB.cls mk = .method mk := by rw [Launch.admits_selectMethod X.admits]; exact q4
      have hlen' : As.length = methk.sig.parameters.length := by
        rw [c5] at hpar
        have : methk.sig.parameters.length = mN a - (1 - mS a) := Option.some.inj hpar
        omega
      have hdg' : decode c.code g.pc = .ok (.invokevirtual idx, 3) := by rw [hF.1]; exact hdg
      rcases hitM_link (args := args) B hW hl with g1 | ⟨hh, g1⟩
      · obtain ⟨vm₁, X₁, st⟩ := X.invokevirtual B.1 hF.2.2.2.2.1 g1 hnamed hmethM hstM hkP hkPi hy (a := b) (cell := cellB) hcell (fun z h => by rw [h] at hobj; cases hobj) hselP hmethM habM hkP hkPi (g := g) hg (argsL := As) (rest := rest) hlen' hstack hdg'
        exact ⟨vm₁, mk, hnamed, X₁, st⟩
      · obtain ⟨vm₁, X₁, st⟩ := X.invokevirtualNest B.1 hF.2.2.2.2.1 g1 hnamed hmethM hstM hkP hkPi hy (a := b) (cell := cellB) hcell (fun z h => by rw [h] at hobj; cases hobj) hselP hmethM habM hkP hkPi (g := g) hg (argsL := As) (rest := rest) hlen' hstack hdg'
        exact ⟨vm₁, mk, hnamed, X₁, st⟩
  · omega
theorem inv_static (B : Base p s0 a0 dC dI ad sv) (hW : s0.WarmedH s.vm) (X : Stand p l e R s m args below meth c T locs cells slots) {k a idx c1 : Nat} (hF : FrK k s m meth c) (ha : a < 202) (hS : mS a = 1) (hl : hitM (mY k).cls idx (mY a) c1 = true)
    {g : JFrame} (hg : g.method = m) {As rest : List Value} (hlen : As.length = mN a) (hstack : g.stack = As.reverse ++ rest) (hdg : decode (mB k) g.pc = .ok (.invokestatic idx, 3)) : Inv1 p l e R s m args below meth c T locs cells slots a As rest g := by
  obtain ⟨-, h2, h3, -, hy, hpar, -⟩ := okM_spec ha
  obtain ⟨mk, methk, ck, hn, c1', c2, c3, c4, c5⟩ := callee B hW ha
  rcases h2 with ⟨q, -⟩ | ⟨-, i1⟩
  · omega
  · have hst : (Cond.static (mY a)).before args s = true := wd B hW i1 rfl
    have hini : (Cond.initialized (mY a).cls).before args s = true := wd B hW h3 rfl
    have hstatic : methk.isStatic = true := Cond.static_spec hn c1' hst
    obtain ⟨kP, hkP, -⟩ := className_of_methodNamed hn
    have hinitP : kP.init = .initialized := Cond.initialized_spec (findClass_of_methodNamed hn) hkP hini
    have hlen' : As.length = methk.sig.parameters.length := by
      rw [c5] at hpar
      have : methk.sig.parameters.length = mN a - (1 - mS a) := Option.some.inj hpar
      omega
    have hdg' : decode c.code g.pc = .ok (.invokestatic idx, 3) := by rw [hF.1]; exact hdg
    rcases hitM_link (args := args) B hW hl with g1 | ⟨hh, g1⟩
    · obtain ⟨vm₁, X₁, st⟩ := X.invokestatic B.1 hF.2.2.2.2.1 g1 hn c1' hstatic hkP hinitP hy (g := g) hg (argsL := As) (rest := rest) hlen' hstack hdg'
      exact ⟨vm₁, mk, hn, X₁, st⟩
    · obtain ⟨vm₁, X₁, st⟩ := X.invokestaticNest B.1 hF.2.2.2.2.1 g1 hn c1' hstatic hkP hinitP hy (g := g) hg (argsL := As) (rest := rest) hlen' hstack hdg'
      exact ⟨vm₁, mk, hn, X₁, st⟩
theorem inv_special (B : Base p s0 a0 dC dI ad sv) (hW : s0.WarmedH s.vm) (X : Stand p l e R s m args below meth c T locs cells slots) {k a idx c1 : Nat} (hF : FrK k s m meth c) (ha : a < 202) (hS : mS a = 0) (hin : (mY a).name = "<init>") (hR0 : mR a = none) (hl : hitM (mY k).cls idx (mY a) c1 = true)
    {g : JFrame} (hg : g.method = m) {b : Addr} {As rest : List Value} (hlen : As.length = mN a - 1) (hstack : g.stack = As.reverse ++ .ref b :: rest) (hdg : decode (mB k) g.pc = .ok (.invokespecial idx, 3)) (hH : mH a = []) : Inv1 p l e R s m args below meth c T locs cells slots a (.ref b :: As) rest g := by
  obtain ⟨h1, h2, -, -, hy, hpar, -⟩ := okM_spec ha
  obtain ⟨mk, methk, ck, hn, c1', c2, c3, c4, c5⟩ := callee B hW ha
  have hpl : e.platform.magicAccessors = ({} : Platform).magicAccessors := by rw [X.admits.platform]
  rcases h2 with ⟨-, i1, -⟩ | ⟨q, -⟩
  · have hinst : (Cond.instanceMethod (mY a)).before args s = true := wd B hW i1 rfl
    have hcode : (Cond.code (mY a) (mB a) (mL a) none).before args s = true := by
      rcases h1 with ⟨h1, -⟩ | ⟨-, h1⟩
      · rw [hR0] at h1
        exact wd B hW h1 rfl
      · exact absurd hH h1
    have hlen' : ∀ sig, parseMethodDescriptor (mY a).desc = some sig → As.length = sig.parameters.length := fun sig h => by
      rw [h] at hpar
      have : sig.parameters.length = mN a - (1 - mS a) := Option.some.inj hpar
      omega
    subst hg
    have hdg' : decode c.code g.pc = .ok (.invokespecial idx, 3) := by rw [hF.1]; exact hdg
    rcases hitM_link (args := args) B hW hl with g1 | ⟨hh, g1⟩
    · obtain ⟨mk', methM, cM, kP, vm₁, hnamed, hmethM, hcodeM, -, hlocalsM, -, hkP, -, hW₁, st⟩ := Steps.initColdArgs (e := e) X.here B.1 X.warmed hpl hF.2.2.2.2.1 hin hy g1 hinst hcode (f := g) rfl hlen' hstack hdg'
      exact ⟨vm₁, mk', hnamed, X.noted hW₁, st⟩
    · obtain ⟨mk', methM, cM, kP, vm₁, hnamed, hmethM, hcodeM, -, hlocalsM, -, hkP, -, hW₁, st⟩ := Steps.initColdArgsNest (e := e) X.here B.1 X.warmed hpl hF.2.2.2.2.1 hin hy g1 hinst hcode (f := g) rfl hlen' hstack hdg'
      exact ⟨vm₁, mk', hnamed, X.noted hW₁, st⟩
  · omega
end SC
end
section
/-! a call, whole; the ends of a method -/
theorem Steps.wk {tb : Tables} {e : Env} {g : Frame} {below : List Frame} {s t : State} (h : Steps tb e (g :: below) s t) : Steps tb e below s t := by
  obtain ⟨n, h1, h2⟩ := h
  exact ⟨n, h1, fun k hk => Within.weaken (mid := [g]) (h2 k hk)⟩
theorem cat_le (S : List Value) : (S.map fun v => v.category).sum ≤ 2 * S.length := by
  induction S with
  | nil => simp
  | cons v S ih =>
    have : v.category ≤ 2 := by cases v <;> simp [Value.category]
    simp only [List.map_cons, List.sum_cons, List.length_cons]
    omega
section SE
variable {p : Program} {l : Launch} {e : Env} {R : Room} {s : State} {m : MethodId} {args : Array Value} {below : List Frame} {meth : Method} {c : Code} {T : State} {locs : List Loc} {cells : Nat}
variable {s0 : State} {a0 : Array Value} {dC : Nat → ClassId} {dI : Nat → Nat → Nat} {ad : Nat → Nat} {sv : Nat → Value}
/-- the room that a call of depth d needs, b0 cells being there -/
def RmD (R : Room) (d b0 : Nat) : Prop := d ≤ R.frames ∧ 50 * d ≤ R.locals ∧ RmC R b0
/-- what is known of a callee: whoever calls it -/
def Cal (p : Program) (l : Launch) (s0 : State) (ad : Nat → Nat) (dC : Nat → ClassId) (dI : Nat → Nat → Nat) (d a pc : Nat) (L : Loc1) (S : List Value) (M : Mem) (o : Fin1) (M' : Mem) : Prop :=
  ∀ {e : Env} {R : Room} {s : State} {m : MethodId} {args : Array Value} {below : List Frame} {meth : Method} {c : Code} {b0 : Nat}, FrK a s m meth c → s0.WarmedH s.vm → RmD R d b0 → Go p l e R s m args below meth c (PQ s0 s below ad dC dI b0 o M') s0 ad dC dI b0 pc L S M
def aft (T' : State) (ad : Nat → Nat) (g : JFrame) (rest : List Value) (o : Fin1) : State := match o with
  | .inl v => T'.setTop { g with pc := g.pc + 3, stack := (v.map (rv ad)).toList ++ rest }
  | .inr x => (T'.setTop { g with stack := rest }).pushFrame (.throwing (ad x))
theorem call_go (B : Base p s0 a0 dC dI ad sv) (hW : s0.WarmedH s.vm) {k a d b0 : Nat} (hF : FrK k s m meth c) (ha : a < 202) (hR : RmD R (d + 1) b0) {As rest : List Value} (hrest : rest.length ≤ 6) (hsl : (slotsOf As).length ≤ mL a) {M M1 : Mem} {o : Fin1} (hcal : Cal p l s0 ad dC dI d a 0 (entL a As) [] M o M1)
    (X : Stand p l e R s m args below meth c T locs cells (1000 * cells)) (hM : WR s0 ad dC dI M T.heap) (hc : cells + b0 = M.2.2.2.length) {g : JFrame} (hg : g.method = m) (hsize : g.locals.size = mL k) (hmr : g.monitorRoom = 0) {ig : Instr} (hdg : decode (mB k) g.pc = .ok (ig, 3))
    (hinv : Inv1 p l e R s m args below meth c T locs cells (1000 * cells) a (As.map (rv ad)) (rest.map (rv ad)) g) :
    ∃ (T' : State) (L1 : List Loc) (c1 : Nat), Stand p l e R s m args below meth c T' (locs ++ L1) (cells + c1) (1000 * (cells + c1)) ∧ (∀ q ∈ L1, s0.heap.size ≤ q.base) ∧ c1 + M.2.2.2.length = M1.2.2.2.length ∧ WR s0 ad dC dI M1 T'.heap ∧
      ∀ target, Steps p.tables e below (aft T' ad g (rest.map (rv ad)) o) target → Steps p.tables e below (T.setTop g) target := by
  obtain ⟨vm₁, mk, hn, X₁, st⟩ := hinv
  obtain ⟨mk', methk, ck, hn', c1', c2, c3, c4, c5⟩ := callee B hW ha
  cases hn.symm.trans hn'
  obtain ⟨-, -, -, hpl, -, -, -, hL20⟩ := okM_spec ha
  obtain ⟨r1, r2, r3, r4⟩ := hR
  have hm1 : (T.setVm vm₁).vm.method? mk = some methk := by rw [X₁.warmed.alike.method?]; exact c1'
  have hp1 : (T.setVm vm₁).plainMethod mk := State.plainMethod.of_named hpl (X₁.named hn) hm1
  have hdg' : decode c.code { g with stack := rest.map (rv ad) }.pc = .ok (ig, 3) := by rw [hF.1]; exact hdg
  have hml : ck.maxLocals = mL a := c4.2.1
  have hlen : M.2.2.2.length ≤ 1000 := hM.1.2.1
  have hcat := cat_le (rest.map (rv ad))
  rw [List.length_map] at hcat
  obtain ⟨Y, hdo⟩ := X₁.into (g := { g with stack := rest.map (rv ad) }) hg (by rw [hF.2.1]; exact hsize) hdg' (As.map (rv ad)).toArray (R' := { frames := d, cells := 1000 - M.2.2.2.length, slots := 1000 * (1000 - M.2.2.2.length), locals := 50 * d }) hm1 c2 c3 hp1 (by show d + 1 ≤ _; omega) (by
    show 2 * g.monitorRoom + ((rest.map (rv ad)).map fun v => v.category).sum + _ + 50 * d ≤ _
    rw [hmr, hml]
    omega) (by show cells + (1000 - _) ≤ _; omega) (by show 1000 * cells + 1000 * (1000 - _) ≤ _; omega)
  have hW1 : s0.WarmedH ((T.setVm vm₁).calling { g with stack := rest.map (rv ad) } mk (As.map (rv ad)).toArray).vm := State.WarmedH.trans hW X₁.warmed
  have hF1 : FrK a ((T.setVm vm₁).calling { g with stack := rest.map (rv ad) } mk (As.map (rv ad)).toArray) mk methk ck := ⟨c4.1, c4.2.1, c4.2.2.1, c4.2.2.2.1, by
    show (T.setVm vm₁).vm.findClass _ = _
    rw [X₁.warmed.alike.findClass]
    exact c4.2.2.2.2.1, c4.2.2.2.2.2.1, c4.2.2.2.2.2.2⟩
  have key := hcal (b0 := M.2.2.2.length) (e := e) (R := { frames := d, cells := 1000 - M.2.2.2.length, slots := 1000 * (1000 - M.2.2.2.length), locals := 50 * d }) (args := (As.map (rv ad)).toArray) (below := .java { g with stack := rest.map (rv ad) } :: below) hF1 hW1 ⟨Nat.le_refl _, Nat.le_refl _, by show 1000 ≤ (1000 - _) + _; omega, by show 1000000 ≤ 1000 * (1000 - _) + _; omega⟩ T.heap [] 0 _ (LR.entry hsl) hM (fun q h => by cases h) (by omega)
    (((T.setVm vm₁).setTop { g with stack := rest.map (rv ad) }).pushFrame (.java (entryFrame mk (As.map (rv ad)).toArray ck.maxLocals))) (by simp [State.pushFrame, State.setFrames, State.setTop, State.modifyTopJava]) Y
  obtain ⟨t, hst, L1, c1, z1, z2, z3, z4, z5, z6, z7⟩ := key
  have hst' : Steps p.tables e below ((((T.setVm vm₁).setTop { g with stack := rest.map (rv ad) }).pushFrame (.java (entryFrame mk (As.map (rv ad)).toArray ck.maxLocals))).setTop (entryFrame mk (As.map (rv ad)).toArray ck.maxLocals)) t := by
    rw [hml] at *
    rw [lg_entry_eq] at *
    exact Steps.wk hst
  cases o with
  | inl v =>
    obtain ⟨T', X', hw', hs', ht⟩ := X₁.outOf (g := { g with stack := rest.map (rv ad) }) hg hdg' z2 z3 z4
    refine ⟨T', L1, c1, ?_, z5, z6, ?_, fun target h => ?_⟩
    · rw [Nat.mul_add]; exact X'
    · have : t.heap = T'.heap := by rw [ht]; simp [State.setTop, State.modifyTopJava]
      rw [← this]; exact z7
    · refine st target (fun acts => ?_)
      rw [hdo acts]
      refine hst'.trans ?_
      rw [ht]
      exact h
  | inr x =>
    obtain ⟨T', X', hw', hs', ht⟩ := X₁.outOfThrown (g := { g with stack := rest.map (rv ad) }) hg z2 z3 z4
    refine ⟨T', L1, c1, ?_, z5, z6, ?_, fun target h => ?_⟩
    · rw [Nat.mul_add]; exact X'
    · have : t.heap = T'.heap := by rw [ht]; simp [State.pushFrame, State.setFrames, State.setTop, State.modifyTopJava]
      rw [← this]; exact z7
    · refine st target (fun acts => ?_)
      rw [hdo acts]
      refine hst'.trans ?_
      rw [ht]
      exact h
/-- the ends: a value -/
theorem end_i {H : Heap} {b0 k : Nat} {M : Mem} {ls : Array Slot} {pc : Nat} {x : Int32} {ty : FieldType} (hx : p.tables.exec = Jvm.exec) (hF : FrK k s m meth c) (hR : mR k = some ty) (hn : narrow ty (.int x) = .int x) (hd : decode (mB k) pc = .ok (.ireturn, 1)) (hM : WR s0 ad dC dI M H) (hq : ∀ q ∈ locs, s0.heap.size ≤ q.base) (hc : cells + b0 = M.2.2.2.length) :
    W p l e R s m args below meth c H locs cells (1000 * cells) (PQ s0 s below ad dC dI b0 (.inl (some (.int x))) M) (F0 m pc ls [.int x]) := by
  intro T hT X
  have hlocks : meth.locks = false := hF.2.2.2.1
  have hb := hF.1
  have hr : meth.sig.returnType = some ty := hF.2.2.1.trans hR
  obtain ⟨fs, hret, hrun, hended, hW, hframe⟩ := X.leave (v := some (.int x)) (fun h => by rw [hr] at h; cases h)
  have hmeth' : T.vm.method? m = some meth := X.method'
  refine ⟨T.setFrames fs, ?_, locs, cells, hrun, hended, hW, hframe, hq, hc, by rw [← hT] at hM; exact hM⟩
  jvm_step X.here [X.here.top, hx, hb, hd, hmeth', hr, hn]
  (try refine ⟨rfl, ?_⟩); (try refine ⟨rfl, ?_⟩)
  first | (intro acts; rw [hret _ acts rfl rfl rfl]) | rw [hret _ _ rfl rfl rfl]
  exact Steps.refl _
theorem end_l {H : Heap} {b0 k : Nat} {M : Mem} {ls : Array Slot} {pc : Nat} {x : Int64} (hx : p.tables.exec = Jvm.exec) (hF : FrK k s m meth c) (hR : mR k = some .long) (hd : decode (mB k) pc = .ok (.lreturn, 1)) (hM : WR s0 ad dC dI M H) (hq : ∀ q ∈ locs, s0.heap.size ≤ q.base) (hc : cells + b0 = M.2.2.2.length) :
    W p l e R s m args below meth c H locs cells (1000 * cells) (PQ s0 s below ad dC dI b0 (.inl (some (.long x))) M) (F0 m pc ls [.long x]) := by
  intro T hT X
  have hlocks : meth.locks = false := hF.2.2.2.1
  have hb := hF.1
  have hr : meth.sig.returnType = some .long := hF.2.2.1.trans hR
  obtain ⟨fs, hret, hrun, hended, hW, hframe⟩ := X.leave (v := some (.long x)) (fun h => by rw [hr] at h; cases h)
  have hmeth' : T.vm.method? m = some meth := X.method'
  refine ⟨T.setFrames fs, ?_, locs, cells, hrun, hended, hW, hframe, hq, hc, by rw [← hT] at hM; exact hM⟩
  jvm_step X.here [X.here.top, hx, hb, hd, hmeth', hr, narrow]
  (try refine ⟨rfl, ?_⟩); (try refine ⟨rfl, ?_⟩)
  first | (intro acts; rw [hret _ acts rfl rfl rfl]) | rw [hret _ _ rfl rfl rfl]
  exact Steps.refl _
theorem end_a {H : Heap} {b0 k : Nat} {M : Mem} {ls : Array Slot} {pc x : Nat} {cn : String} (hx : p.tables.exec = Jvm.exec) (hF : FrK k s m meth c) (hR : mR k = some (.object cn)) (hd : decode (mB k) pc = .ok (.areturn, 1)) (hM : WR s0 ad dC dI M H) (hq : ∀ q ∈ locs, s0.heap.size ≤ q.base) (hc : cells + b0 = M.2.2.2.length) :
    W p l e R s m args below meth c H locs cells (1000 * cells) (PQ s0 s below ad dC dI b0 (.inl (some (.ref x))) M) (F0 m pc ls [.ref (ad x)]) := by
  intro T hT X
  have hlocks : meth.locks = false := hF.2.2.2.1
  have hb := hF.1
  have hr : meth.sig.returnType = some (.object cn) := hF.2.2.1.trans hR
  obtain ⟨fs, hret, hrun, hended, hW, hframe⟩ := X.leave (v := some (.ref (ad x))) (fun h => by rw [hr] at h; cases h)
  have hmeth' : T.vm.method? m = some meth := X.method'
  refine ⟨T.setFrames fs, ?_, locs, cells, hrun, hended, hW, hframe, hq, hc, by rw [← hT] at hM; exact hM⟩
  jvm_step X.here [X.here.top, hx, hb, hd, hmeth', hr]
  (try refine ⟨rfl, ?_⟩); (try refine ⟨rfl, ?_⟩)
  first | (intro acts; rw [hret _ acts rfl rfl rfl]) | rw [hret _ _ rfl rfl rfl]
  exact Steps.refl _
theorem end_v {H : Heap} {b0 k : Nat} {M : Mem} {ls : Array Slot} {pc : Nat} (hx : p.tables.exec = Jvm.exec) (hF : FrK k s m meth c) (hR : mR k = none) (hd : decode (mB k) pc = .ok (.return_, 1)) (hM : WR s0 ad dC dI M H) (hq : ∀ q ∈ locs, s0.heap.size ≤ q.base) (hc : cells + b0 = M.2.2.2.length) :
    W p l e R s m args below meth c H locs cells (1000 * cells) (PQ s0 s below ad dC dI b0 (.inl none) M) (F0 m pc ls []) := by
  intro T hT X
  have hlocks : meth.locks = false := hF.2.2.2.1
  have hb := hF.1
  have hr : meth.sig.returnType = none := hF.2.2.1.trans hR
  obtain ⟨fs, hret, hrun, hended, hW, hframe⟩ := X.leave (v := none) (fun _ => rfl)
  have hmeth' : T.vm.method? m = some meth := X.method'
  refine ⟨T.setFrames fs, ?_, locs, cells, hrun, hended, hW, hframe, hq, hc, by rw [← hT] at hM; exact hM⟩
  jvm_step X.here [X.here.top, hx, hb, hd, hmeth', hr]
  (try refine ⟨rfl, ?_⟩); (try refine ⟨rfl, ?_⟩)
  first | (intro acts; rw [hret _ acts rfl rfl rfl]) | rw [hret _ _ rfl rfl rfl]
  exact Steps.refl _
theorem no_table {k : Nat} (hF : FrK k s m meth c) (hH : mH k = []) : c.exceptionTable.toList = [] := by
  have h := hF.2.2.2.2.2.2
  rw [hH] at h
  exact List.map_eq_nil_iff.mp h
/-- it throws -/
theorem end_t {H : Heap} {b0 k : Nat} {M : Mem} {ls : Array Slot} {pc x : Nat} (hx : p.tables.exec = Jvm.exec) (hF : FrK k s m meth c) (hH : mH k = []) (hd : decode (mB k) pc = .ok (.athrow, 1)) (hM : WR s0 ad dC dI M H) (hq : ∀ q ∈ locs, s0.heap.size ≤ q.base) (hc : cells + b0 = M.2.2.2.length) :
    W p l e R s m args below meth c H locs cells (1000 * cells) (PQ s0 s below ad dC dI b0 (.inr x) M) (F0 m pc ls [.ref (ad x)]) := by
  intro T hT X
  obtain ⟨h1, h2, h3, h4, h5⟩ := X.athrowLeaves hx (g := F0 m pc ls [.ref (ad x)]) rfl rfl rfl (fun y hy => by rw [no_table hF hH] at hy; cases hy) (a := ad x) (rest := []) rfl (by rw [hF.1]; exact hd) hF.2.2.2.1
  exact ⟨_, h1, locs, cells, h2, h3, h4, h5, hq, hc, by rw [← hT] at hM; exact hM⟩
/-- an exception of a callee goes on -/
theorem pass_t {b0 k : Nat} {M : Mem} {g : JFrame} {x : Nat} (hF : FrK k s m meth c) (hH : mH k = []) (hg : g.method = m) (hlk : g.locked = none) (hen : g.entered = []) (X : Stand p l e R s m args below meth c T locs cells (1000 * cells)) (hM : WR s0 ad dC dI M T.heap) (hq : ∀ q ∈ locs, s0.heap.size ≤ q.base) (hc : cells + b0 = M.2.2.2.length) :
    ∃ t, Steps p.tables e below ((T.setTop g).pushFrame (.throwing (ad x))) t ∧ PQ s0 s below ad dC dI b0 (.inr x) M t := by
  obtain ⟨h1, h2, h3, h4, h5⟩ := X.leaveThrown (ad x) (g := g) hg hlk hen (fun y hy => by rw [no_table hF hH] at hy; cases hy) hF.2.2.2.1
  exact ⟨_, h1, locs, cells, h2, h3, h4, h5, hq, hc, hM⟩
end SE
end
section
/-! the one handler: the reference's own exception is caught -/
section CA
variable {p : Program} {l : Launch} {e : Env} {R : Room} {s : State} {m : MethodId} {args : Array Value} {below : List Frame} {meth : Method} {c : Code} {T : State} {locs : List Loc} {cells slots : Nat}
/-- the search through a table of one row that covers the place, its kind not yet looked up, or looked up already -/
theorem one_row {u : State} {f : JFrame} {a : Addr} {x : ExceptionTableEntry} {cT : ClassId} {cell : Cell} (hm : u.vm.method? f.method = some meth) (hc : meth.code = some c) (ht : c.exceptionTable.toList = [x]) (h1 : x.startPc ≤ f.pc) (h2 : f.pc < x.endPc) (h0 : x.catchType ≠ 0)
    (hl : u.vm.ClassLinks e.platform f.method.cls x.catchType cT) (hcell : u.heap[a]? = some cell) (hobj : ∀ k, cell.vm ≠ .statics k) {k1 k2 : Class} (hk1 : u.vm.classes[cell.cls]? = some k1) (hk2 : u.vm.classes[cT]? = some k2) (hfit : u.vm.assignable cell.cls cT = true)
    (Q : Handler → Pre) (E : CtlPost) (d : Bool) (acts : List Action) : wp (findHandler f a) Q E e d acts u ↔ Q (.found x.handlerPc) d acts (u.setVm (u.vm.noted f.method.cls x.catchType (.cls cT))) := by
  rw [W.findHandler_eq hm hc, ht]
  obtain ⟨ha, hb⟩ := (resolveClass_links e.toSetting hl).op (op := VmOp.resolveClass f.method.cls x.catchType) rfl
  have hal : u.vm.Alike (u.vm.noted f.method.cls x.catchType (.cls cT)) := (Vm.Alike.refl u.vm).noted _ _ _
  obtain ⟨k1', hk1', -⟩ := hal.2.2 _ _ hk1
  obtain ⟨k2', hk2', -⟩ := hal.2.2 _ _ hk2
  have hfit' : (u.vm.noted f.method.cls x.catchType (.cls cT)).assignable cell.cls cT = true := by rw [hal.assignable]; exact hfit
  simp [findHandler.go, h1, h2, h0, ha, hb, hcell, hobj, hk1', hk2', hfit', VmOp.dirties, VmOp.acts]
/-- from the note to the handler -/
theorem catch_go (X : Stand p l e R s m args below meth c T locs cells slots) {own name : String} (hown : s.vm.findClass own = some m.cls) {a : Addr} {g : JFrame} (hg : g.method = m) {x : ExceptionTableEntry} (ht : c.exceptionTable.toList = [x]) (h1 : x.startPc ≤ g.pc) (h2 : g.pc < x.endPc) (h0 : x.catchType ≠ 0)
    (hlink : (Cond.classLink own x.catchType name).before args s = true) {cell : Cell} (hcell : T.heap[a]? = some cell) (hobj : cell.vm.isStatics = false) (hcls : s.vm.findClass name = some cell.cls) :
    ∃ vm', Stand p l e R s m args below meth c (T.setVm vm') locs cells slots ∧ ∀ target, Steps p.tables e below ((T.setVm vm').setTop { g with pc := x.handlerPc, stack := [.ref a] }) target → Steps p.tables e below ((T.setTop g).pushFrame (.throwing a)) target := by
  have hpl : e.platform.magicAccessors = ({} : Platform).magicAccessors := by rw [X.admits.platform]
  obtain ⟨cT, hcT, hcl⟩ := Cond.classLink_spec hown hlink e.platform hpl
  cases hcls.symm.trans hcT
  obtain ⟨dk, _, _, kt, hd, _, _, _, _, hkt, _, hopen⟩ := hcl.here
  have hcl₀ := X.warmed.classLinks hcl
  have hW' : s.WarmedH (T.vm.noted m.cls x.catchType (.cls cell.cls)) := X.warmed.noted hd hopen (State.rightAt_cls hcl)
  obtain ⟨kt', hkt', -⟩ := X.warmed.alike.2.2 _ _ hkt
  refine ⟨_, X.noted hW', fun target hrest => ?_⟩
  subst hg
  obtain ⟨hgo, hw⟩ := At.throwing X.here a (g := g)
  refine Steps.head hgo hw ?_
  rw [stepThread_throwing (frames_entered X.here.top _)]
  have hs : (stepThrowing e ((T.setTop g).pushFrame (.throwing a)) a (.java g :: T.frames.tail)).1 = (T.setVm (T.vm.noted g.method.cls x.catchType (.cls cell.cls))).setTop { g with pc := x.handlerPc, stack := [.ref a] } := by
    obtain ⟨g₀, hfr⟩ := X.frames_eq
    have hfr' : (T.setVm (T.vm.noted g.method.cls x.catchType (.cls cell.cls))).frames = .java g₀ :: below := hfr
    rw [State.setTop_of_frames _ hfr', hfr]
    simp only [stepThrowing, searchFrame, vmDo]
    generalize hr : Sem.go _ e false [] ((T.setTop g).pushFrame (.throwing a)) = res
    obtain ⟨as, rfl, ha⟩ := Sem.eq_ok_of hr (a := Handler.found x.handlerPc) (s' := ((T.setTop g).pushFrame (.throwing a)).setVm (T.vm.noted g.method.cls x.catchType (.cls cell.cls))) (acts' := [])
      (by simp [one_row (u := (T.setTop g).pushFrame (.throwing a)) (f := g) (cell := cell) X.method' X.code ht h1 h2 h0 hcl₀ hcell (VmData.ne_statics_of hobj) hkt' hkt' (va_asg _ _)]; rfl)
    rw [State.setTop_of_frames _ hfr]
    simp only [State.pushFrame]
    have e1 : ∀ (u : State) (vm' : Vm) (F G : List Frame), ((u.setFrames F).setVm vm').setFrames G = (u.setVm vm').setFrames G := fun u vm' F G => by
      have : (u.setFrames F).setVm vm' = (u.setVm vm').setFrames F := rfl
      rw [this, State.setFrames_setFrames]
    simp only [List.tail_cons, e1, State.setFrames_setFrames]
  rw [hs]
  exact hrest
end CA
end
