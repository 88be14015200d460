-- ===== PART A: goes FIRST, ahead of the names: the tables' words, and 'selects' of the private methods out of them =====
/-- a private method of a class that the tables say can be made, by its rows of tables_1 -/
def lw_okq (q : MethodName × Nat) : Prop := (q.1.cls ≠ "java/lang/invoke/MethodHandle" ∧ q.1.cls ≠ "java/lang/invoke/VarHandle") ∧ Cond.instantiable q.1.cls q.2 ∈ tables_1 ∧ Cond.privateMethod q.1 ∈ tables_1 ∧ Cond.instanceMethod q.1 ∈ tables_1
theorem lw_p0 : lw_okq (⟨"CourtWash", "found", "(I)I"⟩, 15) := ⟨⟨by decide +kernel, by decide +kernel⟩, List.mem_of_getElem? (i := 23) (by decide +kernel), List.mem_of_getElem? (i := 268) (by decide +kernel), List.mem_of_getElem? (i := 269) (by decide +kernel)⟩
theorem lw_p1 : lw_okq (⟨"CourtWash", "unfound", "(I)I"⟩, 15) := ⟨⟨by decide +kernel, by decide +kernel⟩, List.mem_of_getElem? (i := 23) (by decide +kernel), List.mem_of_getElem? (i := 283) (by decide +kernel), List.mem_of_getElem? (i := 284) (by decide +kernel)⟩
theorem lw_p2 : lw_okq (⟨"CourtWash$Reader", "nextToken", "()V"⟩, 7) := ⟨⟨by decide +kernel, by decide +kernel⟩, List.mem_of_getElem? (i := 51) (by decide +kernel), List.mem_of_getElem? (i := 352) (by decide +kernel), List.mem_of_getElem? (i := 353) (by decide +kernel)⟩
theorem lw_p3 : lw_okq (⟨"CourtWash$Reader", "sortAt", "(I)I"⟩, 7) := ⟨⟨by decide +kernel, by decide +kernel⟩, List.mem_of_getElem? (i := 51) (by decide +kernel), List.mem_of_getElem? (i := 356) (by decide +kernel), List.mem_of_getElem? (i := 357) (by decide +kernel)⟩
theorem lw_p4 : lw_okq (⟨"CourtWash$Reader", "readDay", "(LCourtWash$Court;)V"⟩, 7) := ⟨⟨by decide +kernel, by decide +kernel⟩, List.mem_of_getElem? (i := 51) (by decide +kernel), List.mem_of_getElem? (i := 364) (by decide +kernel), List.mem_of_getElem? (i := 365) (by decide +kernel)⟩
theorem lw_p5 : lw_okq (⟨"CourtWash$Reader", "readWord", "(Ljava/lang/String;Z)V"⟩, 7) := ⟨⟨by decide +kernel, by decide +kernel⟩, List.mem_of_getElem? (i := 51) (by decide +kernel), List.mem_of_getElem? (i := 369) (by decide +kernel), List.mem_of_getElem? (i := 370) (by decide +kernel)⟩
theorem lw_p6 : lw_okq (⟨"CourtWash$Reader", "isNext", "(Ljava/lang/String;)Z"⟩, 7) := ⟨⟨by decide +kernel, by decide +kernel⟩, List.mem_of_getElem? (i := 51) (by decide +kernel), List.mem_of_getElem? (i := 373) (by decide +kernel), List.mem_of_getElem? (i := 374) (by decide +kernel)⟩
theorem lw_p7 : lw_okq (⟨"CourtWash$Reader", "failAt", "(II)V"⟩, 7) := ⟨⟨by decide +kernel, by decide +kernel⟩, List.mem_of_getElem? (i := 51) (by decide +kernel), List.mem_of_getElem? (i := 425) (by decide +kernel), List.mem_of_getElem? (i := 426) (by decide +kernel)⟩
theorem lw_p8 : lw_okq (⟨"CourtWash$Reader", "readNumber", "(II)I"⟩, 7) := ⟨⟨by decide +kernel, by decide +kernel⟩, List.mem_of_getElem? (i := 51) (by decide +kernel), List.mem_of_getElem? (i := 429) (by decide +kernel), List.mem_of_getElem? (i := 430) (by decide +kernel)⟩
theorem lw_p9 : lw_okq (⟨"CourtWash$Reader", "numberOfToken", "()I"⟩, 7) := ⟨⟨by decide +kernel, by decide +kernel⟩, List.mem_of_getElem? (i := 51) (by decide +kernel), List.mem_of_getElem? (i := 433) (by decide +kernel), List.mem_of_getElem? (i := 434) (by decide +kernel)⟩
theorem lw_p10 : lw_okq (⟨"CourtWash$Reader", "readSign", "()V"⟩, 7) := ⟨⟨by decide +kernel, by decide +kernel⟩, List.mem_of_getElem? (i := 51) (by decide +kernel), List.mem_of_getElem? (i := 437) (by decide +kernel), List.mem_of_getElem? (i := 438) (by decide +kernel)⟩
theorem lw_p11 : lw_okq (⟨"CourtWash$Reader", "readLines", "(LCourtWash$Court;)V"⟩, 7) := ⟨⟨by decide +kernel, by decide +kernel⟩, List.mem_of_getElem? (i := 51) (by decide +kernel), List.mem_of_getElem? (i := 441) (by decide +kernel), List.mem_of_getElem? (i := 442) (by decide +kernel)⟩
theorem lw_p12 : lw_okq (⟨"CourtWash$Reader", "readLine", "(LCourtWash$Court;)V"⟩, 7) := ⟨⟨by decide +kernel, by decide +kernel⟩, List.mem_of_getElem? (i := 51) (by decide +kernel), List.mem_of_getElem? (i := 445) (by decide +kernel), List.mem_of_getElem? (i := 446) (by decide +kernel)⟩
theorem lw_p13 : lw_okq (⟨"CourtWash$Reader", "readRights", "(LCourtWash$Court;)V"⟩, 7) := ⟨⟨by decide +kernel, by decide +kernel⟩, List.mem_of_getElem? (i := 51) (by decide +kernel), List.mem_of_getElem? (i := 458) (by decide +kernel), List.mem_of_getElem? (i := 459) (by decide +kernel)⟩
theorem lw_p14 : lw_okq (⟨"CourtWash$Reader", "readRight", "(LCourtWash$Court;)V"⟩, 7) := ⟨⟨by decide +kernel, by decide +kernel⟩, List.mem_of_getElem? (i := 51) (by decide +kernel), List.mem_of_getElem? (i := 463) (by decide +kernel), List.mem_of_getElem? (i := 464) (by decide +kernel)⟩
theorem lw_p15 : lw_okq (⟨"CourtWash$Reader", "readPieces", "(LCourtWash$Court;)V"⟩, 7) := ⟨⟨by decide +kernel, by decide +kernel⟩, List.mem_of_getElem? (i := 51) (by decide +kernel), List.mem_of_getElem? (i := 471) (by decide +kernel), List.mem_of_getElem? (i := 472) (by decide +kernel)⟩
def lw_privs_1 : List (MethodName × Nat) := [(⟨"CourtWash", "found", "(I)I"⟩, 15), (⟨"CourtWash", "unfound", "(I)I"⟩, 15), (⟨"CourtWash$Reader", "nextToken", "()V"⟩, 7), (⟨"CourtWash$Reader", "sortAt", "(I)I"⟩, 7), (⟨"CourtWash$Reader", "readDay", "(LCourtWash$Court;)V"⟩, 7), (⟨"CourtWash$Reader", "readWord", "(Ljava/lang/String;Z)V"⟩, 7), (⟨"CourtWash$Reader", "isNext", "(Ljava/lang/String;)Z"⟩, 7), (⟨"CourtWash$Reader", "failAt", "(II)V"⟩, 7), (⟨"CourtWash$Reader", "readNumber", "(II)I"⟩, 7), (⟨"CourtWash$Reader", "numberOfToken", "()I"⟩, 7), (⟨"CourtWash$Reader", "readSign", "()V"⟩, 7), (⟨"CourtWash$Reader", "readLines", "(LCourtWash$Court;)V"⟩, 7), (⟨"CourtWash$Reader", "readLine", "(LCourtWash$Court;)V"⟩, 7), (⟨"CourtWash$Reader", "readRights", "(LCourtWash$Court;)V"⟩, 7), (⟨"CourtWash$Reader", "readRight", "(LCourtWash$Court;)V"⟩, 7), (⟨"CourtWash$Reader", "readPieces", "(LCourtWash$Court;)V"⟩, 7)]
theorem lw_r1 : ∀ q ∈ lw_privs_1, lw_okq q := List.forall_mem_cons.mpr ⟨lw_p0, List.forall_mem_cons.mpr ⟨lw_p1, List.forall_mem_cons.mpr ⟨lw_p2, List.forall_mem_cons.mpr ⟨lw_p3, List.forall_mem_cons.mpr ⟨lw_p4, List.forall_mem_cons.mpr ⟨lw_p5, List.forall_mem_cons.mpr ⟨lw_p6, List.forall_mem_cons.mpr ⟨lw_p7, List.forall_mem_cons.mpr ⟨lw_p8, List.forall_mem_cons.mpr ⟨lw_p9, List.forall_mem_cons.mpr ⟨lw_p10, List.forall_mem_cons.mpr ⟨lw_p11, List.forall_mem_cons.mpr ⟨lw_p12, List.forall_mem_cons.mpr ⟨lw_p13, List.forall_mem_cons.mpr ⟨lw_p14, List.forall_mem_cons.mpr ⟨lw_p15, fun _ h => absurd h List.not_mem_nil⟩⟩⟩⟩⟩⟩⟩⟩⟩⟩⟩⟩⟩⟩⟩⟩
theorem lw_p16 : lw_okq (⟨"CourtWash$Reader", "readPiece", "(LCourtWash$Court;)V"⟩, 7) := ⟨⟨by decide +kernel, by decide +kernel⟩, List.mem_of_getElem? (i := 51) (by decide +kernel), List.mem_of_getElem? (i := 476) (by decide +kernel), List.mem_of_getElem? (i := 477) (by decide +kernel)⟩
theorem lw_p17 : lw_okq (⟨"CourtWash$Reader", "readKind", "()I"⟩, 7) := ⟨⟨by decide +kernel, by decide +kernel⟩, List.mem_of_getElem? (i := 51) (by decide +kernel), List.mem_of_getElem? (i := 480) (by decide +kernel), List.mem_of_getElem? (i := 481) (by decide +kernel)⟩
theorem lw_p18 : lw_okq (⟨"CourtWash$Court", "nextBelow", "(I)I"⟩, 16) := ⟨⟨by decide +kernel, by decide +kernel⟩, List.mem_of_getElem? (i := 98) (by decide +kernel), List.mem_of_getElem? (i := 500) (by decide +kernel), List.mem_of_getElem? (i := 501) (by decide +kernel)⟩
theorem lw_p19 : lw_okq (⟨"CourtWash", "isPiece", "(I)Z"⟩, 15) := ⟨⟨by decide +kernel, by decide +kernel⟩, List.mem_of_getElem? (i := 23) (by decide +kernel), List.mem_of_getElem? (i := 517) (by decide +kernel), List.mem_of_getElem? (i := 518) (by decide +kernel)⟩
theorem lw_p20 : lw_okq (⟨"CourtWash", "isLine", "(I)Z"⟩, 15) := ⟨⟨by decide +kernel, by decide +kernel⟩, List.mem_of_getElem? (i := 23) (by decide +kernel), List.mem_of_getElem? (i := 521) (by decide +kernel), List.mem_of_getElem? (i := 522) (by decide +kernel)⟩
theorem lw_p21 : lw_okq (⟨"CourtWash$Wash", "isOfOthers", "(II)Z"⟩, 7) := ⟨⟨by decide +kernel, by decide +kernel⟩, List.mem_of_getElem? (i := 175) (by decide +kernel), List.mem_of_getElem? (i := 533) (by decide +kernel), List.mem_of_getElem? (i := 534) (by decide +kernel)⟩
theorem lw_p22 : lw_okq (⟨"CourtWash$Wash", "hasRoomFor", "(II)Z"⟩, 7) := ⟨⟨by decide +kernel, by decide +kernel⟩, List.mem_of_getElem? (i := 175) (by decide +kernel), List.mem_of_getElem? (i := 550) (by decide +kernel), List.mem_of_getElem? (i := 551) (by decide +kernel)⟩
theorem lw_p23 : lw_okq (⟨"CourtWash", "noCourt", "()Z"⟩, 15) := ⟨⟨by decide +kernel, by decide +kernel⟩, List.mem_of_getElem? (i := 23) (by decide +kernel), List.mem_of_getElem? (i := 577) (by decide +kernel), List.mem_of_getElem? (i := 578) (by decide +kernel)⟩
theorem lw_p24 : lw_okq (⟨"CourtWash$Wash", "gatherDrips", "()V"⟩, 7) := ⟨⟨by decide +kernel, by decide +kernel⟩, List.mem_of_getElem? (i := 175) (by decide +kernel), List.mem_of_getElem? (i := 601) (by decide +kernel), List.mem_of_getElem? (i := 602) (by decide +kernel)⟩
theorem lw_p25 : lw_okq (⟨"CourtWash$Wash", "takeDrips", "()V"⟩, 7) := ⟨⟨by decide +kernel, by decide +kernel⟩, List.mem_of_getElem? (i := 175) (by decide +kernel), List.mem_of_getElem? (i := 605) (by decide +kernel), List.mem_of_getElem? (i := 606) (by decide +kernel)⟩
theorem lw_p26 : lw_okq (⟨"CourtWash", "draftLaid", "(II)I"⟩, 15) := ⟨⟨by decide +kernel, by decide +kernel⟩, List.mem_of_getElem? (i := 23) (by decide +kernel), List.mem_of_getElem? (i := 626) (by decide +kernel), List.mem_of_getElem? (i := 627) (by decide +kernel)⟩
theorem lw_p27 : lw_okq (⟨"CourtWash", "findPlan", "(I)V"⟩, 15) := ⟨⟨by decide +kernel, by decide +kernel⟩, List.mem_of_getElem? (i := 23) (by decide +kernel), List.mem_of_getElem? (i := 677) (by decide +kernel), List.mem_of_getElem? (i := 678) (by decide +kernel)⟩
theorem lw_p28 : lw_okq (⟨"CourtWash", "leastTimeAlone", "(I)I"⟩, 15) := ⟨⟨by decide +kernel, by decide +kernel⟩, List.mem_of_getElem? (i := 23) (by decide +kernel), List.mem_of_getElem? (i := 681) (by decide +kernel), List.mem_of_getElem? (i := 682) (by decide +kernel)⟩
theorem lw_p29 : lw_okq (⟨"CourtWash", "timeUntilDry", "(III)I"⟩, 15) := ⟨⟨by decide +kernel, by decide +kernel⟩, List.mem_of_getElem? (i := 23) (by decide +kernel), List.mem_of_getElem? (i := 685) (by decide +kernel), List.mem_of_getElem? (i := 686) (by decide +kernel)⟩
theorem lw_p30 : lw_okq (⟨"CourtWash", "planPiece", "(II)V"⟩, 15) := ⟨⟨by decide +kernel, by decide +kernel⟩, List.mem_of_getElem? (i := 23) (by decide +kernel), List.mem_of_getElem? (i := 699) (by decide +kernel), List.mem_of_getElem? (i := 700) (by decide +kernel)⟩
theorem lw_p31 : lw_okq (⟨"CourtWash", "keepOrGoOn", "(III)V"⟩, 15) := ⟨⟨by decide +kernel, by decide +kernel⟩, List.mem_of_getElem? (i := 23) (by decide +kernel), List.mem_of_getElem? (i := 703) (by decide +kernel), List.mem_of_getElem? (i := 704) (by decide +kernel)⟩
def lw_privs_2 : List (MethodName × Nat) := [(⟨"CourtWash$Reader", "readPiece", "(LCourtWash$Court;)V"⟩, 7), (⟨"CourtWash$Reader", "readKind", "()I"⟩, 7), (⟨"CourtWash$Court", "nextBelow", "(I)I"⟩, 16), (⟨"CourtWash", "isPiece", "(I)Z"⟩, 15), (⟨"CourtWash", "isLine", "(I)Z"⟩, 15), (⟨"CourtWash$Wash", "isOfOthers", "(II)Z"⟩, 7), (⟨"CourtWash$Wash", "hasRoomFor", "(II)Z"⟩, 7), (⟨"CourtWash", "noCourt", "()Z"⟩, 15), (⟨"CourtWash$Wash", "gatherDrips", "()V"⟩, 7), (⟨"CourtWash$Wash", "takeDrips", "()V"⟩, 7), (⟨"CourtWash", "draftLaid", "(II)I"⟩, 15), (⟨"CourtWash", "findPlan", "(I)V"⟩, 15), (⟨"CourtWash", "leastTimeAlone", "(I)I"⟩, 15), (⟨"CourtWash", "timeUntilDry", "(III)I"⟩, 15), (⟨"CourtWash", "planPiece", "(II)V"⟩, 15), (⟨"CourtWash", "keepOrGoOn", "(III)V"⟩, 15)]
theorem lw_r2 : ∀ q ∈ lw_privs_2, lw_okq q := List.forall_mem_cons.mpr ⟨lw_p16, List.forall_mem_cons.mpr ⟨lw_p17, List.forall_mem_cons.mpr ⟨lw_p18, List.forall_mem_cons.mpr ⟨lw_p19, List.forall_mem_cons.mpr ⟨lw_p20, List.forall_mem_cons.mpr ⟨lw_p21, List.forall_mem_cons.mpr ⟨lw_p22, List.forall_mem_cons.mpr ⟨lw_p23, List.forall_mem_cons.mpr ⟨lw_p24, List.forall_mem_cons.mpr ⟨lw_p25, List.forall_mem_cons.mpr ⟨lw_p26, List.forall_mem_cons.mpr ⟨lw_p27, List.forall_mem_cons.mpr ⟨lw_p28, List.forall_mem_cons.mpr ⟨lw_p29, List.forall_mem_cons.mpr ⟨lw_p30, List.forall_mem_cons.mpr ⟨lw_p31, fun _ h => absurd h List.not_mem_nil⟩⟩⟩⟩⟩⟩⟩⟩⟩⟩⟩⟩⟩⟩⟩⟩
theorem lw_p32 : lw_okq (⟨"CourtWash", "hangsAbove", "(III)Z"⟩, 15) := ⟨⟨by decide +kernel, by decide +kernel⟩, List.mem_of_getElem? (i := 23) (by decide +kernel), List.mem_of_getElem? (i := 712) (by decide +kernel), List.mem_of_getElem? (i := 713) (by decide +kernel)⟩
theorem lw_p33 : lw_okq (⟨"CourtWash", "linesByRings", "([I)[I"⟩, 15) := ⟨⟨by decide +kernel, by decide +kernel⟩, List.mem_of_getElem? (i := 23) (by decide +kernel), List.mem_of_getElem? (i := 754) (by decide +kernel), List.mem_of_getElem? (i := 755) (by decide +kernel)⟩
theorem lw_p34 : lw_okq (⟨"CourtWash", "likedMost", "(I[I[I)I"⟩, 15) := ⟨⟨by decide +kernel, by decide +kernel⟩, List.mem_of_getElem? (i := 23) (by decide +kernel), List.mem_of_getElem? (i := 759) (by decide +kernel), List.mem_of_getElem? (i := 760) (by decide +kernel)⟩
theorem lw_p35 : lw_okq (⟨"CourtWash", "likesMore", "(III)Z"⟩, 15) := ⟨⟨by decide +kernel, by decide +kernel⟩, List.mem_of_getElem? (i := 23) (by decide +kernel), List.mem_of_getElem? (i := 763) (by decide +kernel), List.mem_of_getElem? (i := 764) (by decide +kernel)⟩
theorem lw_p36 : lw_okq (⟨"CourtWash", "isInRing", "(I[I)Z"⟩, 15) := ⟨⟨by decide +kernel, by decide +kernel⟩, List.mem_of_getElem? (i := 23) (by decide +kernel), List.mem_of_getElem? (i := 767) (by decide +kernel), List.mem_of_getElem? (i := 768) (by decide +kernel)⟩
theorem lw_p37 : lw_okq (⟨"CourtWash", "yardsWet", "(I)I"⟩, 15) := ⟨⟨by decide +kernel, by decide +kernel⟩, List.mem_of_getElem? (i := 23) (by decide +kernel), List.mem_of_getElem? (i := 775) (by decide +kernel), List.mem_of_getElem? (i := 776) (by decide +kernel)⟩
theorem lw_p38 : lw_okq (⟨"CourtWash", "takenNext", "(I)I"⟩, 15) := ⟨⟨by decide +kernel, by decide +kernel⟩, List.mem_of_getElem? (i := 23) (by decide +kernel), List.mem_of_getElem? (i := 780) (by decide +kernel), List.mem_of_getElem? (i := 781) (by decide +kernel)⟩
theorem lw_p39 : lw_okq (⟨"CourtWash", "imageOf", "(I)LCourtWash$Wash;"⟩, 15) := ⟨⟨by decide +kernel, by decide +kernel⟩, List.mem_of_getElem? (i := 23) (by decide +kernel), List.mem_of_getElem? (i := 788) (by decide +kernel), List.mem_of_getElem? (i := 789) (by decide +kernel)⟩
theorem lw_p40 : lw_okq (⟨"CourtWash", "pieceAsked", "(I)LCourtWash$Piece;"⟩, 15) := ⟨⟨by decide +kernel, by decide +kernel⟩, List.mem_of_getElem? (i := 23) (by decide +kernel), List.mem_of_getElem? (i := 804) (by decide +kernel), List.mem_of_getElem? (i := 805) (by decide +kernel)⟩
theorem lw_p41 : lw_okq (⟨"CourtWashModel", "finding", "(I)I"⟩, 28) := ⟨⟨by decide +kernel, by decide +kernel⟩, List.mem_of_getElem? (i := 976) (by decide +kernel), List.mem_of_getElem? (i := 1080) (by decide +kernel), List.mem_of_getElem? (i := 1081) (by decide +kernel)⟩
theorem lw_p42 : lw_okq (⟨"CourtWashModel", "begin", "()V"⟩, 28) := ⟨⟨by decide +kernel, by decide +kernel⟩, List.mem_of_getElem? (i := 976) (by decide +kernel), List.mem_of_getElem? (i := 1108) (by decide +kernel), List.mem_of_getElem? (i := 1109) (by decide +kernel)⟩
theorem lw_p43 : lw_okq (⟨"CourtWashModel", "next", "()V"⟩, 28) := ⟨⟨by decide +kernel, by decide +kernel⟩, List.mem_of_getElem? (i := 976) (by decide +kernel), List.mem_of_getElem? (i := 1112) (by decide +kernel), List.mem_of_getElem? (i := 1113) (by decide +kernel)⟩
theorem lw_p44 : lw_okq (⟨"CourtWashModel", "byteAt", "(I)I"⟩, 28) := ⟨⟨by decide +kernel, by decide +kernel⟩, List.mem_of_getElem? (i := 976) (by decide +kernel), List.mem_of_getElem? (i := 1116) (by decide +kernel), List.mem_of_getElem? (i := 1117) (by decide +kernel)⟩
theorem lw_p45 : lw_okq (⟨"CourtWashModel", "readDay", "()V"⟩, 28) := ⟨⟨by decide +kernel, by decide +kernel⟩, List.mem_of_getElem? (i := 976) (by decide +kernel), List.mem_of_getElem? (i := 1127) (by decide +kernel), List.mem_of_getElem? (i := 1128) (by decide +kernel)⟩
theorem lw_p46 : lw_okq (⟨"CourtWashModel", "name", "()J"⟩, 28) := ⟨⟨by decide +kernel, by decide +kernel⟩, List.mem_of_getElem? (i := 976) (by decide +kernel), List.mem_of_getElem? (i := 1131) (by decide +kernel), List.mem_of_getElem? (i := 1132) (by decide +kernel)⟩
theorem lw_p47 : lw_okq (⟨"CourtWashModel", "must", "(Z)V"⟩, 28) := ⟨⟨by decide +kernel, by decide +kernel⟩, List.mem_of_getElem? (i := 976) (by decide +kernel), List.mem_of_getElem? (i := 1136) (by decide +kernel), List.mem_of_getElem? (i := 1137) (by decide +kernel)⟩
def lw_privs_3 : List (MethodName × Nat) := [(⟨"CourtWash", "hangsAbove", "(III)Z"⟩, 15), (⟨"CourtWash", "linesByRings", "([I)[I"⟩, 15), (⟨"CourtWash", "likedMost", "(I[I[I)I"⟩, 15), (⟨"CourtWash", "likesMore", "(III)Z"⟩, 15), (⟨"CourtWash", "isInRing", "(I[I)Z"⟩, 15), (⟨"CourtWash", "yardsWet", "(I)I"⟩, 15), (⟨"CourtWash", "takenNext", "(I)I"⟩, 15), (⟨"CourtWash", "imageOf", "(I)LCourtWash$Wash;"⟩, 15), (⟨"CourtWash", "pieceAsked", "(I)LCourtWash$Piece;"⟩, 15), (⟨"CourtWashModel", "finding", "(I)I"⟩, 28), (⟨"CourtWashModel", "begin", "()V"⟩, 28), (⟨"CourtWashModel", "next", "()V"⟩, 28), (⟨"CourtWashModel", "byteAt", "(I)I"⟩, 28), (⟨"CourtWashModel", "readDay", "()V"⟩, 28), (⟨"CourtWashModel", "name", "()J"⟩, 28), (⟨"CourtWashModel", "must", "(Z)V"⟩, 28)]
theorem lw_r3 : ∀ q ∈ lw_privs_3, lw_okq q := List.forall_mem_cons.mpr ⟨lw_p32, List.forall_mem_cons.mpr ⟨lw_p33, List.forall_mem_cons.mpr ⟨lw_p34, List.forall_mem_cons.mpr ⟨lw_p35, List.forall_mem_cons.mpr ⟨lw_p36, List.forall_mem_cons.mpr ⟨lw_p37, List.forall_mem_cons.mpr ⟨lw_p38, List.forall_mem_cons.mpr ⟨lw_p39, List.forall_mem_cons.mpr ⟨lw_p40, List.forall_mem_cons.mpr ⟨lw_p41, List.forall_mem_cons.mpr ⟨lw_p42, List.forall_mem_cons.mpr ⟨lw_p43, List.forall_mem_cons.mpr ⟨lw_p44, List.forall_mem_cons.mpr ⟨lw_p45, List.forall_mem_cons.mpr ⟨lw_p46, List.forall_mem_cons.mpr ⟨lw_p47, fun _ h => absurd h List.not_mem_nil⟩⟩⟩⟩⟩⟩⟩⟩⟩⟩⟩⟩⟩⟩⟩⟩
theorem lw_p48 : lw_okq (⟨"CourtWashModel", "bad", "(I)V"⟩, 28) := ⟨⟨by decide +kernel, by decide +kernel⟩, List.mem_of_getElem? (i := 976) (by decide +kernel), List.mem_of_getElem? (i := 1140) (by decide +kernel), List.mem_of_getElem? (i := 1141) (by decide +kernel)⟩
theorem lw_p49 : lw_okq (⟨"CourtWashModel", "number", "(II)I"⟩, 28) := ⟨⟨by decide +kernel, by decide +kernel⟩, List.mem_of_getElem? (i := 976) (by decide +kernel), List.mem_of_getElem? (i := 1144) (by decide +kernel), List.mem_of_getElem? (i := 1145) (by decide +kernel)⟩
theorem lw_p50 : lw_okq (⟨"CourtWashModel", "figures", "()I"⟩, 28) := ⟨⟨by decide +kernel, by decide +kernel⟩, List.mem_of_getElem? (i := 976) (by decide +kernel), List.mem_of_getElem? (i := 1148) (by decide +kernel), List.mem_of_getElem? (i := 1149) (by decide +kernel)⟩
theorem lw_p51 : lw_okq (⟨"CourtWashModel", "mustEnd", "()V"⟩, 28) := ⟨⟨by decide +kernel, by decide +kernel⟩, List.mem_of_getElem? (i := 976) (by decide +kernel), List.mem_of_getElem? (i := 1152) (by decide +kernel), List.mem_of_getElem? (i := 1153) (by decide +kernel)⟩
theorem lw_p52 : lw_okq (⟨"CourtWashModel", "readLine", "()V"⟩, 28) := ⟨⟨by decide +kernel, by decide +kernel⟩, List.mem_of_getElem? (i := 976) (by decide +kernel), List.mem_of_getElem? (i := 1157) (by decide +kernel), List.mem_of_getElem? (i := 1158) (by decide +kernel)⟩
theorem lw_p53 : lw_okq (⟨"CourtWashModel", "begins", "(II)V"⟩, 28) := ⟨⟨by decide +kernel, by decide +kernel⟩, List.mem_of_getElem? (i := 976) (by decide +kernel), List.mem_of_getElem? (i := 1161) (by decide +kernel), List.mem_of_getElem? (i := 1162) (by decide +kernel)⟩
theorem lw_p54 : lw_okq (⟨"CourtWashModel", "isTold", "(II)Z"⟩, 28) := ⟨⟨by decide +kernel, by decide +kernel⟩, List.mem_of_getElem? (i := 976) (by decide +kernel), List.mem_of_getElem? (i := 1165) (by decide +kernel), List.mem_of_getElem? (i := 1166) (by decide +kernel)⟩
theorem lw_p55 : lw_okq (⟨"CourtWashModel", "readRight", "()V"⟩, 28) := ⟨⟨by decide +kernel, by decide +kernel⟩, List.mem_of_getElem? (i := 976) (by decide +kernel), List.mem_of_getElem? (i := 1170) (by decide +kernel), List.mem_of_getElem? (i := 1171) (by decide +kernel)⟩
theorem lw_p56 : lw_okq (⟨"CourtWashModel", "readPiece", "()V"⟩, 28) := ⟨⟨by decide +kernel, by decide +kernel⟩, List.mem_of_getElem? (i := 976) (by decide +kernel), List.mem_of_getElem? (i := 1175) (by decide +kernel), List.mem_of_getElem? (i := 1176) (by decide +kernel)⟩
theorem lw_p57 : lw_okq (⟨"CourtWashModel", "isPiece", "(I)Z"⟩, 28) := ⟨⟨by decide +kernel, by decide +kernel⟩, List.mem_of_getElem? (i := 976) (by decide +kernel), List.mem_of_getElem? (i := 1196) (by decide +kernel), List.mem_of_getElem? (i := 1197) (by decide +kernel)⟩
theorem lw_p58 : lw_okq (⟨"CourtWashModel", "isLine", "(I)Z"⟩, 28) := ⟨⟨by decide +kernel, by decide +kernel⟩, List.mem_of_getElem? (i := 976) (by decide +kernel), List.mem_of_getElem? (i := 1200) (by decide +kernel), List.mem_of_getElem? (i := 1201) (by decide +kernel)⟩
theorem lw_p59 : lw_okq (⟨"CourtWashModel", "layNow", "()V"⟩, 28) := ⟨⟨by decide +kernel, by decide +kernel⟩, List.mem_of_getElem? (i := 976) (by decide +kernel), List.mem_of_getElem? (i := 1204) (by decide +kernel), List.mem_of_getElem? (i := 1205) (by decide +kernel)⟩
theorem lw_p60 : lw_okq (⟨"CourtWashModel", "of", "(II)I"⟩, 28) := ⟨⟨by decide +kernel, by decide +kernel⟩, List.mem_of_getElem? (i := 976) (by decide +kernel), List.mem_of_getElem? (i := 1208) (by decide +kernel), List.mem_of_getElem? (i := 1209) (by decide +kernel)⟩
theorem lw_p61 : lw_okq (⟨"CourtWashModel", "comes", "(II)I"⟩, 28) := ⟨⟨by decide +kernel, by decide +kernel⟩, List.mem_of_getElem? (i := 976) (by decide +kernel), List.mem_of_getElem? (i := 1212) (by decide +kernel), List.mem_of_getElem? (i := 1213) (by decide +kernel)⟩
theorem lw_p62 : lw_okq (⟨"CourtWashModel", "rightsTo", "(I)I"⟩, 28) := ⟨⟨by decide +kernel, by decide +kernel⟩, List.mem_of_getElem? (i := 976) (by decide +kernel), List.mem_of_getElem? (i := 1216) (by decide +kernel), List.mem_of_getElem? (i := 1217) (by decide +kernel)⟩
theorem lw_p63 : lw_okq (⟨"CourtWashModel", "yardsOn", "(I)I"⟩, 28) := ⟨⟨by decide +kernel, by decide +kernel⟩, List.mem_of_getElem? (i := 976) (by decide +kernel), List.mem_of_getElem? (i := 1221) (by decide +kernel), List.mem_of_getElem? (i := 1222) (by decide +kernel)⟩
def lw_privs_4 : List (MethodName × Nat) := [(⟨"CourtWashModel", "bad", "(I)V"⟩, 28), (⟨"CourtWashModel", "number", "(II)I"⟩, 28), (⟨"CourtWashModel", "figures", "()I"⟩, 28), (⟨"CourtWashModel", "mustEnd", "()V"⟩, 28), (⟨"CourtWashModel", "readLine", "()V"⟩, 28), (⟨"CourtWashModel", "begins", "(II)V"⟩, 28), (⟨"CourtWashModel", "isTold", "(II)Z"⟩, 28), (⟨"CourtWashModel", "readRight", "()V"⟩, 28), (⟨"CourtWashModel", "readPiece", "()V"⟩, 28), (⟨"CourtWashModel", "isPiece", "(I)Z"⟩, 28), (⟨"CourtWashModel", "isLine", "(I)Z"⟩, 28), (⟨"CourtWashModel", "layNow", "()V"⟩, 28), (⟨"CourtWashModel", "of", "(II)I"⟩, 28), (⟨"CourtWashModel", "comes", "(II)I"⟩, 28), (⟨"CourtWashModel", "rightsTo", "(I)I"⟩, 28), (⟨"CourtWashModel", "yardsOn", "(I)I"⟩, 28)]
theorem lw_r4 : ∀ q ∈ lw_privs_4, lw_okq q := List.forall_mem_cons.mpr ⟨lw_p48, List.forall_mem_cons.mpr ⟨lw_p49, List.forall_mem_cons.mpr ⟨lw_p50, List.forall_mem_cons.mpr ⟨lw_p51, List.forall_mem_cons.mpr ⟨lw_p52, List.forall_mem_cons.mpr ⟨lw_p53, List.forall_mem_cons.mpr ⟨lw_p54, List.forall_mem_cons.mpr ⟨lw_p55, List.forall_mem_cons.mpr ⟨lw_p56, List.forall_mem_cons.mpr ⟨lw_p57, List.forall_mem_cons.mpr ⟨lw_p58, List.forall_mem_cons.mpr ⟨lw_p59, List.forall_mem_cons.mpr ⟨lw_p60, List.forall_mem_cons.mpr ⟨lw_p61, List.forall_mem_cons.mpr ⟨lw_p62, List.forall_mem_cons.mpr ⟨lw_p63, fun _ h => absurd h List.not_mem_nil⟩⟩⟩⟩⟩⟩⟩⟩⟩⟩⟩⟩⟩⟩⟩⟩
theorem lw_p64 : lw_okq (⟨"CourtWashModel", "hasSheet", "(I)Z"⟩, 28) := ⟨⟨by decide +kernel, by decide +kernel⟩, List.mem_of_getElem? (i := 976) (by decide +kernel), List.mem_of_getElem? (i := 1225) (by decide +kernel), List.mem_of_getElem? (i := 1226) (by decide +kernel)⟩
theorem lw_p65 : lw_okq (⟨"CourtWashModel", "keepNow", "()V"⟩, 28) := ⟨⟨by decide +kernel, by decide +kernel⟩, List.mem_of_getElem? (i := 976) (by decide +kernel), List.mem_of_getElem? (i := 1229) (by decide +kernel), List.mem_of_getElem? (i := 1230) (by decide +kernel)⟩
theorem lw_p66 : lw_okq (⟨"CourtWashModel", "goOn", "(I)V"⟩, 28) := ⟨⟨by decide +kernel, by decide +kernel⟩, List.mem_of_getElem? (i := 976) (by decide +kernel), List.mem_of_getElem? (i := 1242) (by decide +kernel), List.mem_of_getElem? (i := 1243) (by decide +kernel)⟩
theorem lw_p67 : lw_okq (⟨"CourtWashModel", "dries", "(II)V"⟩, 28) := ⟨⟨by decide +kernel, by decide +kernel⟩, List.mem_of_getElem? (i := 976) (by decide +kernel), List.mem_of_getElem? (i := 1246) (by decide +kernel), List.mem_of_getElem? (i := 1247) (by decide +kernel)⟩
theorem lw_p68 : lw_okq (⟨"CourtWashModel", "hasSun", "(III)Z"⟩, 28) := ⟨⟨by decide +kernel, by decide +kernel⟩, List.mem_of_getElem? (i := 976) (by decide +kernel), List.mem_of_getElem? (i := 1250) (by decide +kernel), List.mem_of_getElem? (i := 1251) (by decide +kernel)⟩
theorem lw_p69 : lw_okq (⟨"CourtWashModel", "floor", "(I)I"⟩, 28) := ⟨⟨by decide +kernel, by decide +kernel⟩, List.mem_of_getElem? (i := 976) (by decide +kernel), List.mem_of_getElem? (i := 1254) (by decide +kernel), List.mem_of_getElem? (i := 1255) (by decide +kernel)⟩
theorem lw_p70 : lw_okq (⟨"CourtWashModel", "below", "(I)I"⟩, 28) := ⟨⟨by decide +kernel, by decide +kernel⟩, List.mem_of_getElem? (i := 976) (by decide +kernel), List.mem_of_getElem? (i := 1258) (by decide +kernel), List.mem_of_getElem? (i := 1259) (by decide +kernel)⟩
theorem lw_p71 : lw_okq (⟨"CourtWashModel", "isReddish", "(I)Z"⟩, 28) := ⟨⟨by decide +kernel, by decide +kernel⟩, List.mem_of_getElem? (i := 976) (by decide +kernel), List.mem_of_getElem? (i := 1262) (by decide +kernel), List.mem_of_getElem? (i := 1263) (by decide +kernel)⟩
theorem lw_p72 : lw_okq (⟨"CourtWashModel", "hangOn", "(I)I"⟩, 28) := ⟨⟨by decide +kernel, by decide +kernel⟩, List.mem_of_getElem? (i := 976) (by decide +kernel), List.mem_of_getElem? (i := 1281) (by decide +kernel), List.mem_of_getElem? (i := 1282) (by decide +kernel)⟩
theorem lw_p73 : lw_okq (⟨"CourtWashModel", "areDry", "(I)Z"⟩, 28) := ⟨⟨by decide +kernel, by decide +kernel⟩, List.mem_of_getElem? (i := 976) (by decide +kernel), List.mem_of_getElem? (i := 1289) (by decide +kernel), List.mem_of_getElem? (i := 1290) (by decide +kernel)⟩
theorem lw_p74 : lw_okq (⟨"CourtWashModel", "dryBy", "(II)I"⟩, 28) := ⟨⟨by decide +kernel, by decide +kernel⟩, List.mem_of_getElem? (i := 976) (by decide +kernel), List.mem_of_getElem? (i := 1297) (by decide +kernel), List.mem_of_getElem? (i := 1298) (by decide +kernel)⟩
theorem lw_p75 : lw_okq (⟨"CourtWashModel", "sunsOf", "(IIII)I"⟩, 28) := ⟨⟨by decide +kernel, by decide +kernel⟩, List.mem_of_getElem? (i := 976) (by decide +kernel), List.mem_of_getElem? (i := 1311) (by decide +kernel), List.mem_of_getElem? (i := 1312) (by decide +kernel)⟩
theorem lw_p76 : lw_okq (⟨"CourtWashModel", "turn", "(I)Z"⟩, 28) := ⟨⟨by decide +kernel, by decide +kernel⟩, List.mem_of_getElem? (i := 976) (by decide +kernel), List.mem_of_getElem? (i := 1320) (by decide +kernel), List.mem_of_getElem? (i := 1321) (by decide +kernel)⟩
theorem lw_p77 : lw_okq (⟨"CourtWashModel", "point", "(II)V"⟩, 28) := ⟨⟨by decide +kernel, by decide +kernel⟩, List.mem_of_getElem? (i := 976) (by decide +kernel), List.mem_of_getElem? (i := 1324) (by decide +kernel), List.mem_of_getElem? (i := 1325) (by decide +kernel)⟩
theorem lw_p78 : lw_okq (⟨"CourtWashModel", "isInRing", "(II)Z"⟩, 28) := ⟨⟨by decide +kernel, by decide +kernel⟩, List.mem_of_getElem? (i := 976) (by decide +kernel), List.mem_of_getElem? (i := 1328) (by decide +kernel), List.mem_of_getElem? (i := 1329) (by decide +kernel)⟩
theorem lw_p79 : lw_okq (⟨"CourtWashModel", "nextIn", "(I)I"⟩, 28) := ⟨⟨by decide +kernel, by decide +kernel⟩, List.mem_of_getElem? (i := 976) (by decide +kernel), List.mem_of_getElem? (i := 1337) (by decide +kernel), List.mem_of_getElem? (i := 1338) (by decide +kernel)⟩
def lw_privs_5 : List (MethodName × Nat) := [(⟨"CourtWashModel", "hasSheet", "(I)Z"⟩, 28), (⟨"CourtWashModel", "keepNow", "()V"⟩, 28), (⟨"CourtWashModel", "goOn", "(I)V"⟩, 28), (⟨"CourtWashModel", "dries", "(II)V"⟩, 28), (⟨"CourtWashModel", "hasSun", "(III)Z"⟩, 28), (⟨"CourtWashModel", "floor", "(I)I"⟩, 28), (⟨"CourtWashModel", "below", "(I)I"⟩, 28), (⟨"CourtWashModel", "isReddish", "(I)Z"⟩, 28), (⟨"CourtWashModel", "hangOn", "(I)I"⟩, 28), (⟨"CourtWashModel", "areDry", "(I)Z"⟩, 28), (⟨"CourtWashModel", "dryBy", "(II)I"⟩, 28), (⟨"CourtWashModel", "sunsOf", "(IIII)I"⟩, 28), (⟨"CourtWashModel", "turn", "(I)Z"⟩, 28), (⟨"CourtWashModel", "point", "(II)V"⟩, 28), (⟨"CourtWashModel", "isInRing", "(II)Z"⟩, 28), (⟨"CourtWashModel", "nextIn", "(I)I"⟩, 28)]
theorem lw_r5 : ∀ q ∈ lw_privs_5, lw_okq q := List.forall_mem_cons.mpr ⟨lw_p64, List.forall_mem_cons.mpr ⟨lw_p65, List.forall_mem_cons.mpr ⟨lw_p66, List.forall_mem_cons.mpr ⟨lw_p67, List.forall_mem_cons.mpr ⟨lw_p68, List.forall_mem_cons.mpr ⟨lw_p69, List.forall_mem_cons.mpr ⟨lw_p70, List.forall_mem_cons.mpr ⟨lw_p71, List.forall_mem_cons.mpr ⟨lw_p72, List.forall_mem_cons.mpr ⟨lw_p73, List.forall_mem_cons.mpr ⟨lw_p74, List.forall_mem_cons.mpr ⟨lw_p75, List.forall_mem_cons.mpr ⟨lw_p76, List.forall_mem_cons.mpr ⟨lw_p77, List.forall_mem_cons.mpr ⟨lw_p78, List.forall_mem_cons.mpr ⟨lw_p79, fun _ h => absurd h List.not_mem_nil⟩⟩⟩⟩⟩⟩⟩⟩⟩⟩⟩⟩⟩⟩⟩⟩
theorem lw_p80 : lw_okq (⟨"CourtWashModel", "sizeOf", "(I)I"⟩, 28) := ⟨⟨by decide +kernel, by decide +kernel⟩, List.mem_of_getElem? (i := 976) (by decide +kernel), List.mem_of_getElem? (i := 1365) (by decide +kernel), List.mem_of_getElem? (i := 1366) (by decide +kernel)⟩
theorem lw_p81 : lw_okq (⟨"CourtWashModel", "plainSize", "(I)I"⟩, 28) := ⟨⟨by decide +kernel, by decide +kernel⟩, List.mem_of_getElem? (i := 976) (by decide +kernel), List.mem_of_getElem? (i := 1369) (by decide +kernel), List.mem_of_getElem? (i := 1370) (by decide +kernel)⟩
theorem lw_p82 : lw_okq (⟨"CourtWashModel", "began", "(I)V"⟩, 28) := ⟨⟨by decide +kernel, by decide +kernel⟩, List.mem_of_getElem? (i := 976) (by decide +kernel), List.mem_of_getElem? (i := 1373) (by decide +kernel), List.mem_of_getElem? (i := 1374) (by decide +kernel)⟩
theorem lw_p83 : lw_okq (⟨"CourtWashModel", "redMark", "(I)I"⟩, 28) := ⟨⟨by decide +kernel, by decide +kernel⟩, List.mem_of_getElem? (i := 976) (by decide +kernel), List.mem_of_getElem? (i := 1377) (by decide +kernel), List.mem_of_getElem? (i := 1378) (by decide +kernel)⟩
theorem lw_p84 : lw_okq (⟨"CourtWashModel", "markOf", "(I)I"⟩, 28) := ⟨⟨by decide +kernel, by decide +kernel⟩, List.mem_of_getElem? (i := 976) (by decide +kernel), List.mem_of_getElem? (i := 1381) (by decide +kernel), List.mem_of_getElem? (i := 1382) (by decide +kernel)⟩
def lw_privs_6 : List (MethodName × Nat) := [(⟨"CourtWashModel", "sizeOf", "(I)I"⟩, 28), (⟨"CourtWashModel", "plainSize", "(I)I"⟩, 28), (⟨"CourtWashModel", "began", "(I)V"⟩, 28), (⟨"CourtWashModel", "redMark", "(I)I"⟩, 28), (⟨"CourtWashModel", "markOf", "(I)I"⟩, 28)]
theorem lw_r6 : ∀ q ∈ lw_privs_6, lw_okq q := List.forall_mem_cons.mpr ⟨lw_p80, List.forall_mem_cons.mpr ⟨lw_p81, List.forall_mem_cons.mpr ⟨lw_p82, List.forall_mem_cons.mpr ⟨lw_p83, List.forall_mem_cons.mpr ⟨lw_p84, fun _ h => absurd h List.not_mem_nil⟩⟩⟩⟩⟩
def lw_privs : List (MethodName × Nat) := lw_privs_1 ++ (lw_privs_2 ++ (lw_privs_3 ++ (lw_privs_4 ++ (lw_privs_5 ++ (lw_privs_6)))))
def lw_tbl : List Cond := k2_sels lw_privs ++ tables_1
theorem lw_privs_ok : ∀ q ∈ lw_privs, lw_okq q := by
  show ∀ q ∈ lw_privs_1 ++ (lw_privs_2 ++ (lw_privs_3 ++ (lw_privs_4 ++ (lw_privs_5 ++ (lw_privs_6))))), lw_okq q
  exact List.forall_mem_append.mpr ⟨lw_r1, List.forall_mem_append.mpr ⟨lw_r2, List.forall_mem_append.mpr ⟨lw_r3, List.forall_mem_append.mpr ⟨lw_r4, List.forall_mem_append.mpr ⟨lw_r5, lw_r6⟩⟩⟩⟩⟩
def RX0 : String := "CourtWash$Black"
def TX0 : u_T := fun k => match k with
  | 0 => ("CourtWash$Piece", "number", "I", true)
  | 1 => ("CourtWash$Piece", "wet", "I", true)
  | 2 => ("CourtWash$Piece", "yards", "I", true)
  | _ => ("CourtWash$Piece", "trace", "LCourtWash$Trace;", true)
def tyX0 : Nat → FieldType := fun k => match k with
  | 0 => .int
  | 1 => .int
  | 2 => .int
  | _ => .object "CourtWash$Trace"
theorem nmX0 : ∀ a, a < 4 → ∀ b, b < 4 → a ≠ b → (TX0 a).2.1 ≠ (TX0 b).2.1 := by decide +kernel
theorem tyX0_ok : ∀ k, k < 4 → parseFieldDescriptor (TX0 k).2.2.1 = some (tyX0 k) := by decide +kernel
abbrev cX0_init : ByteArray := prog_2_method_1_code
def yX0_init : MethodName := ⟨RX0, "<init>", "(IIILCourtWash$Trace;)V"⟩
abbrev cX0_size : ByteArray := prog_2_method_2_code
def yX0_size : MethodName := ⟨RX0, "size", "()I"⟩
abbrev cX0_mark : ByteArray := prog_2_method_3_code
def yX0_mark : MethodName := ⟨RX0, "mark", "()I"⟩
def RX1 : String := "CourtWash$Court"
def TX1 : u_T := fun k => match k with
  | 0 => ("CourtWash$Court", "day", "[I", true)
  | 1 => ("CourtWash$Court", "lineCount", "I", false)
  | 2 => ("CourtWash$Court", "floors", "[I", true)
  | 3 => ("CourtWash$Court", "columns", "[I", true)
  | 4 => ("CourtWash$Court", "wides", "[I", true)
  | 5 => ("CourtWash$Court", "below", "[I", true)
  | 6 => ("CourtWash$Court", "rightCount", "I", false)
  | 7 => ("CourtWash$Court", "rightLines", "[I", true)
  | 8 => ("CourtWash$Court", "rightFroms", "[I", true)
  | 9 => ("CourtWash$Court", "rightTos", "[I", true)
  | 10 => ("CourtWash$Court", "rightOwners", "[I", true)
  | 11 => ("CourtWash$Court", "pieceCount", "I", false)
  | 12 => ("CourtWash$Court", "kinds", "[I", true)
  | 13 => ("CourtWash$Court", "owners", "[I", true)
  | 14 => ("CourtWash$Court", "firstWet", "[I", true)
  | _ => ("CourtWash$Court", "yards", "[I", true)
def tyX1 : Nat → FieldType := fun k => match k with
  | 0 => .array .int
  | 1 => .int
  | 2 => .array .int
  | 3 => .array .int
  | 4 => .array .int
  | 5 => .array .int
  | 6 => .int
  | 7 => .array .int
  | 8 => .array .int
  | 9 => .array .int
  | 10 => .array .int
  | 11 => .int
  | 12 => .array .int
  | 13 => .array .int
  | 14 => .array .int
  | _ => .array .int
theorem nmX1 : ∀ a, a < 16 → ∀ b, b < 16 → a ≠ b → (TX1 a).2.1 ≠ (TX1 b).2.1 := by decide +kernel
theorem tyX1_ok : ∀ k, k < 16 → parseFieldDescriptor (TX1 k).2.2.1 = some (tyX1 k) := by decide +kernel
abbrev cX1_init : ByteArray := prog_3_method_1_code
def yX1_init : MethodName := ⟨RX1, "<init>", "()V"⟩
abbrev cX1_isTold : ByteArray := prog_3_method_2_code
def yX1_isTold : MethodName := ⟨RX1, "isTold", "()Z"⟩
abbrev cX1_addLine : ByteArray := prog_3_method_3_code
def yX1_addLine : MethodName := ⟨RX1, "addLine", "(III)V"⟩
abbrev cX1_addRight : ByteArray := prog_3_method_4_code
def yX1_addRight : MethodName := ⟨RX1, "addRight", "(IIII)V"⟩
abbrev cX1_addPiece : ByteArray := prog_3_method_5_code
def yX1_addPiece : MethodName := ⟨RX1, "addPiece", "(IIII)V"⟩
abbrev cX1_hasLineAt : ByteArray := prog_3_method_6_code
def yX1_hasLineAt : MethodName := ⟨RX1, "hasLineAt", "(II)Z"⟩
abbrev cX1_findLinesBelow : ByteArray := prog_3_method_7_code
def yX1_findLinesBelow : MethodName := ⟨RX1, "findLinesBelow", "()V"⟩
abbrev cX1_nextBelow : ByteArray := prog_3_method_8_code
def yX1_nextBelow : MethodName := ⟨RX1, "nextBelow", "(I)I"⟩
abbrev cX1_hasSun : ByteArray := prog_3_method_9_code
def yX1_hasSun : MethodName := ⟨RX1, "hasSun", "(III)Z"⟩
abbrev cX1_sunnyQuarters : ByteArray := prog_3_method_10_code
def yX1_sunnyQuarters : MethodName := ⟨RX1, "sunnyQuarters", "(IIII)I"⟩
abbrev cX1_drying : ByteArray := prog_3_method_11_code
def yX1_drying : MethodName := ⟨RX1, "drying", "(III)I"⟩
abbrev cX1_takesStains : ByteArray := prog_3_method_12_code
def yX1_takesStains : MethodName := ⟨RX1, "takesStains", "(I)Z"⟩
abbrev cX1_holders : ByteArray := prog_3_method_13_code
def yX1_holders : MethodName := ⟨RX1, "holders", "(II)I"⟩
def RX2 : String := "CourtWash$Piece"
def TX2 : u_T := fun k => match k with
  | _ => ("", "", "", false)
def tyX2 : Nat → FieldType := fun k => match k with
  | _ => .int
theorem nmX2 : ∀ a, a < 0 → ∀ b, b < 0 → a ≠ b → (TX2 a).2.1 ≠ (TX2 b).2.1 := by decide +kernel
theorem tyX2_ok : ∀ k, k < 0 → parseFieldDescriptor (TX2 k).2.2.1 = some (tyX2 k) := by decide +kernel
abbrev cX2_init : ByteArray := prog_4_method_1_code
def yX2_init : MethodName := ⟨RX2, "<init>", "(IIILCourtWash$Trace;)V"⟩
abbrev cX2_size : ByteArray := prog_4_method_2_code
def yX2_size : MethodName := ⟨RX2, "size", "()I"⟩
abbrev cX2_mark : ByteArray := prog_4_method_3_code
def yX2_mark : MethodName := ⟨RX2, "mark", "()I"⟩
def RX3 : String := "CourtWash$Reader"
def TX3 : u_T := fun k => match k with
  | 0 => ("CourtWash$Reader", "tape", "[B", true)
  | 1 => ("CourtWash$Reader", "length", "I", false)
  | 2 => ("CourtWash$Reader", "tokenSort", "I", false)
  | 3 => ("CourtWash$Reader", "tokenFrom", "I", false)
  | 4 => ("CourtWash$Reader", "tokenTo", "I", false)
  | 5 => ("CourtWash$Reader", "faultNumber", "I", false)
  | _ => ("CourtWash$Reader", "faultPlace", "I", false)
def tyX3 : Nat → FieldType := fun k => match k with
  | 0 => .array .byte
  | 1 => .int
  | 2 => .int
  | 3 => .int
  | 4 => .int
  | 5 => .int
  | _ => .int
theorem nmX3 : ∀ a, a < 7 → ∀ b, b < 7 → a ≠ b → (TX3 a).2.1 ≠ (TX3 b).2.1 := by decide +kernel
theorem tyX3_ok : ∀ k, k < 7 → parseFieldDescriptor (TX3 k).2.2.1 = some (tyX3 k) := by decide +kernel
abbrev cX3_init : ByteArray := prog_5_method_1_code
def yX3_init : MethodName := ⟨RX3, "<init>", "()V"⟩
abbrev cX3_hasRoom : ByteArray := prog_5_method_2_code
def yX3_hasRoom : MethodName := ⟨RX3, "hasRoom", "(I)Z"⟩
abbrev cX3_append : ByteArray := prog_5_method_3_code
def yX3_append : MethodName := ⟨RX3, "append", "(JI)I"⟩
abbrev cX3_readCourt : ByteArray := prog_5_method_4_code
def yX3_readCourt : MethodName := ⟨RX3, "readCourt", "()LCourtWash$Court;"⟩
abbrev cX3_readDay : ByteArray := prog_5_method_5_code
def yX3_readDay : MethodName := ⟨RX3, "readDay", "(LCourtWash$Court;)V"⟩
abbrev cX3_readLines : ByteArray := prog_5_method_6_code
def yX3_readLines : MethodName := ⟨RX3, "readLines", "(LCourtWash$Court;)V"⟩
abbrev cX3_readLine : ByteArray := prog_5_method_7_code
def yX3_readLine : MethodName := ⟨RX3, "readLine", "(LCourtWash$Court;)V"⟩
abbrev cX3_readRights : ByteArray := prog_5_method_8_code
def yX3_readRights : MethodName := ⟨RX3, "readRights", "(LCourtWash$Court;)V"⟩
abbrev cX3_readRight : ByteArray := prog_5_method_9_code
def yX3_readRight : MethodName := ⟨RX3, "readRight", "(LCourtWash$Court;)V"⟩
abbrev cX3_readPieces : ByteArray := prog_5_method_10_code
def yX3_readPieces : MethodName := ⟨RX3, "readPieces", "(LCourtWash$Court;)V"⟩
abbrev cX3_readPiece : ByteArray := prog_5_method_11_code
def yX3_readPiece : MethodName := ⟨RX3, "readPiece", "(LCourtWash$Court;)V"⟩
abbrev cX3_readKind : ByteArray := prog_5_method_12_code
def yX3_readKind : MethodName := ⟨RX3, "readKind", "()I"⟩
abbrev cX3_sortOf : ByteArray := prog_5_method_13_code
def yX3_sortOf : MethodName := ⟨RX3, "sortOf", "(I)Ljava/lang/String;"⟩
abbrev cX3_readWord : ByteArray := prog_5_method_14_code
def yX3_readWord : MethodName := ⟨RX3, "readWord", "(Ljava/lang/String;Z)V"⟩
abbrev cX3_readSign : ByteArray := prog_5_method_15_code
def yX3_readSign : MethodName := ⟨RX3, "readSign", "()V"⟩
abbrev cX3_readNumber : ByteArray := prog_5_method_16_code
def yX3_readNumber : MethodName := ⟨RX3, "readNumber", "(II)I"⟩
abbrev cX3_numberOfToken : ByteArray := prog_5_method_17_code
def yX3_numberOfToken : MethodName := ⟨RX3, "numberOfToken", "()I"⟩
abbrev cX3_failAt : ByteArray := prog_5_method_18_code
def yX3_failAt : MethodName := ⟨RX3, "failAt", "(II)V"⟩
abbrev cX3_isNext : ByteArray := prog_5_method_19_code
def yX3_isNext : MethodName := ⟨RX3, "isNext", "(Ljava/lang/String;)Z"⟩
abbrev cX3_nextToken : ByteArray := prog_5_method_20_code
def yX3_nextToken : MethodName := ⟨RX3, "nextToken", "()V"⟩
abbrev cX3_sortAt : ByteArray := prog_5_method_21_code
def yX3_sortAt : MethodName := ⟨RX3, "sortAt", "(I)I"⟩
def RX4 : String := "CourtWash$Red"
def TX4 : u_T := fun k => match k with
  | 0 => ("CourtWash$Piece", "number", "I", true)
  | 1 => ("CourtWash$Piece", "wet", "I", true)
  | 2 => ("CourtWash$Piece", "yards", "I", true)
  | _ => ("CourtWash$Piece", "trace", "LCourtWash$Trace;", true)
def tyX4 : Nat → FieldType := fun k => match k with
  | 0 => .int
  | 1 => .int
  | 2 => .int
  | _ => .object "CourtWash$Trace"
theorem nmX4 : ∀ a, a < 4 → ∀ b, b < 4 → a ≠ b → (TX4 a).2.1 ≠ (TX4 b).2.1 := by decide +kernel
theorem tyX4_ok : ∀ k, k < 4 → parseFieldDescriptor (TX4 k).2.2.1 = some (tyX4 k) := by decide +kernel
abbrev cX4_init : ByteArray := prog_6_method_1_code
def yX4_init : MethodName := ⟨RX4, "<init>", "(IIILCourtWash$Trace;)V"⟩
abbrev cX4_size : ByteArray := prog_6_method_2_code
def yX4_size : MethodName := ⟨RX4, "size", "()I"⟩
abbrev cX4_mark : ByteArray := prog_6_method_3_code
def yX4_mark : MethodName := ⟨RX4, "mark", "()I"⟩
def RX5 : String := "CourtWash$Rows"
def TX5 : u_T := fun k => match k with
  | 0 => ("CourtWash$Rows", "lanes", "[I", true)
  | 1 => ("CourtWash$Rows", "sizes", "[I", true)
  | _ => ("CourtWash$Rows", "items", "[I", true)
def tyX5 : Nat → FieldType := fun k => match k with
  | 0 => .array .int
  | 1 => .array .int
  | _ => .array .int
theorem nmX5 : ∀ a, a < 3 → ∀ b, b < 3 → a ≠ b → (TX5 a).2.1 ≠ (TX5 b).2.1 := by decide +kernel
theorem tyX5_ok : ∀ k, k < 3 → parseFieldDescriptor (TX5 k).2.2.1 = some (tyX5 k) := by decide +kernel
abbrev cX5_init : ByteArray := prog_7_method_1_code
def yX5_init : MethodName := ⟨RX5, "<init>", "()V"⟩
abbrev cX5_isRow : ByteArray := prog_7_method_2_code
def yX5_isRow : MethodName := ⟨RX5, "isRow", "(I)Z"⟩
abbrev cX5_isMissing : ByteArray := prog_7_method_3_code
def yX5_isMissing : MethodName := ⟨RX5, "isMissing", "(I)Z"⟩
abbrev cX5_areAlike : ByteArray := prog_7_method_4_code
def yX5_areAlike : MethodName := ⟨RX5, "areAlike", "(II)Z"⟩
abbrev cX5_hasItems : ByteArray := prog_7_method_5_code
def yX5_hasItems : MethodName := ⟨RX5, "hasItems", "(III)Z"⟩
abbrev cX5_make : ByteArray := prog_7_method_6_code
def yX5_make : MethodName := ⟨RX5, "make", "(III)V"⟩
abbrev cX5_lose : ByteArray := prog_7_method_7_code
def yX5_lose : MethodName := ⟨RX5, "lose", "(I)I"⟩
abbrev cX5_item : ByteArray := prog_7_method_8_code
def yX5_item : MethodName := ⟨RX5, "item", "(II)I"⟩
abbrev cX5_put : ByteArray := prog_7_method_9_code
def yX5_put : MethodName := ⟨RX5, "put", "(III)I"⟩
abbrev cX5_move : ByteArray := prog_7_method_10_code
def yX5_move : MethodName := ⟨RX5, "move", "(IIIII)V"⟩
abbrev cX5_areIn : ByteArray := prog_7_method_11_code
def yX5_areIn : MethodName := ⟨RX5, "areIn", "(IIIII)Z"⟩
abbrev cX5_areUnlike : ByteArray := prog_7_method_12_code
def yX5_areUnlike : MethodName := ⟨RX5, "areUnlike", "(II)Z"⟩
abbrev cX5_firstItems : ByteArray := prog_7_method_13_code
def yX5_firstItems : MethodName := ⟨RX5, "firstItems", "(II)[I"⟩
abbrev cX5_howMany : ByteArray := prog_7_method_14_code
def yX5_howMany : MethodName := ⟨RX5, "howMany", "()I"⟩
abbrev cX5_cutToLane : ByteArray := prog_7_method_15_code
def yX5_cutToLane : MethodName := ⟨RX5, "cutToLane", "(II)I"⟩
def RX6 : String := "CourtWash$Sheet"
def TX6 : u_T := fun k => match k with
  | 0 => ("CourtWash$Piece", "number", "I", true)
  | 1 => ("CourtWash$Piece", "wet", "I", true)
  | 2 => ("CourtWash$Piece", "yards", "I", true)
  | _ => ("CourtWash$Piece", "trace", "LCourtWash$Trace;", true)
def tyX6 : Nat → FieldType := fun k => match k with
  | 0 => .int
  | 1 => .int
  | 2 => .int
  | _ => .object "CourtWash$Trace"
theorem nmX6 : ∀ a, a < 4 → ∀ b, b < 4 → a ≠ b → (TX6 a).2.1 ≠ (TX6 b).2.1 := by decide +kernel
theorem tyX6_ok : ∀ k, k < 4 → parseFieldDescriptor (TX6 k).2.2.1 = some (tyX6 k) := by decide +kernel
abbrev cX6_init : ByteArray := prog_8_method_1_code
def yX6_init : MethodName := ⟨RX6, "<init>", "(IIILCourtWash$Trace;)V"⟩
abbrev cX6_mark : ByteArray := prog_8_method_2_code
def yX6_mark : MethodName := ⟨RX6, "mark", "()I"⟩
def RX7 : String := "CourtWash$Sock"
def TX7 : u_T := fun k => match k with
  | 0 => ("CourtWash$Piece", "number", "I", true)
  | 1 => ("CourtWash$Piece", "wet", "I", true)
  | 2 => ("CourtWash$Piece", "yards", "I", true)
  | _ => ("CourtWash$Piece", "trace", "LCourtWash$Trace;", true)
def tyX7 : Nat → FieldType := fun k => match k with
  | 0 => .int
  | 1 => .int
  | 2 => .int
  | _ => .object "CourtWash$Trace"
theorem nmX7 : ∀ a, a < 4 → ∀ b, b < 4 → a ≠ b → (TX7 a).2.1 ≠ (TX7 b).2.1 := by decide +kernel
theorem tyX7_ok : ∀ k, k < 4 → parseFieldDescriptor (TX7 k).2.2.1 = some (tyX7 k) := by decide +kernel
abbrev cX7_init : ByteArray := prog_9_method_1_code
def yX7_init : MethodName := ⟨RX7, "<init>", "(IIILCourtWash$Trace;)V"⟩
abbrev cX7_size : ByteArray := prog_9_method_2_code
def yX7_size : MethodName := ⟨RX7, "size", "()I"⟩
abbrev cX7_mark : ByteArray := prog_9_method_3_code
def yX7_mark : MethodName := ⟨RX7, "mark", "()I"⟩
def RX8 : String := "CourtWash$Trace"
def TX8 : u_T := fun k => match k with
  | 0 => ("CourtWash$Trace", "numbers", "[I", true)
  | _ => ("CourtWash$Trace", "length", "I", false)
def tyX8 : Nat → FieldType := fun k => match k with
  | 0 => .array .int
  | _ => .int
theorem nmX8 : ∀ a, a < 2 → ∀ b, b < 2 → a ≠ b → (TX8 a).2.1 ≠ (TX8 b).2.1 := by decide +kernel
theorem tyX8_ok : ∀ k, k < 2 → parseFieldDescriptor (TX8 k).2.2.1 = some (tyX8 k) := by decide +kernel
abbrev cX8_init : ByteArray := prog_10_method_1_code
def yX8_init : MethodName := ⟨RX8, "<init>", "()V"⟩
abbrev cX8_empty : ByteArray := prog_10_method_2_code
def yX8_empty : MethodName := ⟨RX8, "empty", "()V"⟩
abbrev cX8_begin : ByteArray := prog_10_method_3_code
def yX8_begin : MethodName := ⟨RX8, "begin", "(I)V"⟩
def RX9 : String := "CourtWash$Wash"
def TX9 : u_T := fun k => match k with
  | 0 => ("CourtWash$Wash", "court", "LCourtWash$Court;", false)
  | 1 => ("CourtWash$Wash", "gone", "I", false)
  | 2 => ("CourtWash$Wash", "wet", "[I", true)
  | 3 => ("CourtWash$Wash", "where", "[I", true)
  | 4 => ("CourtWash$Wash", "stained", "[Z", true)
  | 5 => ("CourtWash$Wash", "dripsOn", "[I", true)
  | _ => ("CourtWash$Wash", "redOn", "[Z", true)
def tyX9 : Nat → FieldType := fun k => match k with
  | 0 => .object "CourtWash$Court"
  | 1 => .int
  | 2 => .array .int
  | 3 => .array .int
  | 4 => .array .boolean
  | 5 => .array .int
  | _ => .array .boolean
theorem nmX9 : ∀ a, a < 7 → ∀ b, b < 7 → a ≠ b → (TX9 a).2.1 ≠ (TX9 b).2.1 := by decide +kernel
theorem tyX9_ok : ∀ k, k < 7 → parseFieldDescriptor (TX9 k).2.2.1 = some (tyX9 k) := by decide +kernel
abbrev cX9_init : ByteArray := prog_11_method_1_code
def yX9_init : MethodName := ⟨RX9, "<init>", "(LCourtWash$Court;)V"⟩
abbrev cX9_begin : ByteArray := prog_11_method_2_code
def yX9_begin : MethodName := ⟨RX9, "begin", "(LCourtWash$Court;)V"⟩
abbrev cX9_become : ByteArray := prog_11_method_3_code
def yX9_become : MethodName := ⟨RX9, "become", "(LCourtWash$Wash;)V"⟩
abbrev cX9_quarterNow : ByteArray := prog_11_method_4_code
def yX9_quarterNow : MethodName := ⟨RX9, "quarterNow", "()I"⟩
abbrev cX9_isHung : ByteArray := prog_11_method_5_code
def yX9_isHung : MethodName := ⟨RX9, "isHung", "(I)Z"⟩
abbrev cX9_putUp : ByteArray := prog_11_method_6_code
def yX9_putUp : MethodName := ⟨RX9, "putUp", "(II)V"⟩
abbrev cX9_takeDown : ByteArray := prog_11_method_7_code
def yX9_takeDown : MethodName := ⟨RX9, "takeDown", "(I)I"⟩
abbrev cX9_takeAllDown : ByteArray := prog_11_method_8_code
def yX9_takeAllDown : MethodName := ⟨RX9, "takeAllDown", "()V"⟩
abbrev cX9_bitsOn : ByteArray := prog_11_method_9_code
def yX9_bitsOn : MethodName := ⟨RX9, "bitsOn", "(I)I"⟩
abbrev cX9_hungBits : ByteArray := prog_11_method_10_code
def yX9_hungBits : MethodName := ⟨RX9, "hungBits", "()I"⟩
abbrev cX9_howManyStained : ByteArray := prog_11_method_11_code
def yX9_howManyStained : MethodName := ⟨RX9, "howManyStained", "()I"⟩
abbrev cX9_refusal : ByteArray := prog_11_method_12_code
def yX9_refusal : MethodName := ⟨RX9, "refusal", "(II)I"⟩
abbrev cX9_isOfOthers : ByteArray := prog_11_method_13_code
def yX9_isOfOthers : MethodName := ⟨RX9, "isOfOthers", "(II)Z"⟩
abbrev cX9_hasRoomFor : ByteArray := prog_11_method_14_code
def yX9_hasRoomFor : MethodName := ⟨RX9, "hasRoomFor", "(II)Z"⟩
abbrev cX9_yardsLeft : ByteArray := prog_11_method_15_code
def yX9_yardsLeft : MethodName := ⟨RX9, "yardsLeft", "(II)I"⟩
abbrev cX9_passQuarter : ByteArray := prog_11_method_16_code
def yX9_passQuarter : MethodName := ⟨RX9, "passQuarter", "()V"⟩
abbrev cX9_gatherDrips : ByteArray := prog_11_method_17_code
def yX9_gatherDrips : MethodName := ⟨RX9, "gatherDrips", "()V"⟩
abbrev cX9_takeDrips : ByteArray := prog_11_method_18_code
def yX9_takeDrips : MethodName := ⟨RX9, "takeDrips", "()V"⟩
abbrev cX9_allHungAreDry : ByteArray := prog_11_method_19_code
def yX9_allHungAreDry : MethodName := ⟨RX9, "allHungAreDry", "()Z"⟩
abbrev cX9_areDry : ByteArray := prog_11_method_20_code
def yX9_areDry : MethodName := ⟨RX9, "areDry", "(II)Z"⟩
abbrev cX9_areStainedSince : ByteArray := prog_11_method_21_code
def yX9_areStainedSince : MethodName := ⟨RX9, "areStainedSince", "(LCourtWash$Wash;II)Z"⟩
def RX10 : String := "CourtWash$Wool"
def TX10 : u_T := fun k => match k with
  | 0 => ("CourtWash$Piece", "number", "I", true)
  | 1 => ("CourtWash$Piece", "wet", "I", true)
  | 2 => ("CourtWash$Piece", "yards", "I", true)
  | _ => ("CourtWash$Piece", "trace", "LCourtWash$Trace;", true)
def tyX10 : Nat → FieldType := fun k => match k with
  | 0 => .int
  | 1 => .int
  | 2 => .int
  | _ => .object "CourtWash$Trace"
theorem nmX10 : ∀ a, a < 4 → ∀ b, b < 4 → a ≠ b → (TX10 a).2.1 ≠ (TX10 b).2.1 := by decide +kernel
theorem tyX10_ok : ∀ k, k < 4 → parseFieldDescriptor (TX10 k).2.2.1 = some (tyX10 k) := by decide +kernel
abbrev cX10_init : ByteArray := prog_12_method_1_code
def yX10_init : MethodName := ⟨RX10, "<init>", "(IIILCourtWash$Trace;)V"⟩
abbrev cX10_size : ByteArray := prog_12_method_2_code
def yX10_size : MethodName := ⟨RX10, "size", "()I"⟩
def RX11 : String := "CourtWash"
def TX11 : u_T := fun k => match k with
  | 0 => ("CourtWash", "rows", "LCourtWash$Rows;", true)
  | 1 => ("CourtWash", "reader", "LCourtWash$Reader;", true)
  | 2 => ("CourtWash", "wash", "LCourtWash$Wash;", true)
  | 3 => ("CourtWash", "firstImage", "LCourtWash$Wash;", true)
  | 4 => ("CourtWash", "secondImage", "LCourtWash$Wash;", true)
  | 5 => ("CourtWash", "draft", "LCourtWash$Wash;", true)
  | 6 => ("CourtWash", "trial", "LCourtWash$Wash;", true)
  | 7 => ("CourtWash", "trace", "LCourtWash$Trace;", true)
  | 8 => ("CourtWash", "triedLines", "[I", true)
  | 9 => ("CourtWash", "bestLines", "[I", true)
  | 10 => ("CourtWash", "timesAlone", "[I", true)
  | 11 => ("CourtWash", "leastTime", "I", false)
  | 12 => ("CourtWash", "bestTime", "I", false)
  | 13 => ("CourtWash", "latestFault", "I", false)
  | _ => ("CourtWash", "latestFinding", "I", false)
def tyX11 : Nat → FieldType := fun k => match k with
  | 0 => .object "CourtWash$Rows"
  | 1 => .object "CourtWash$Reader"
  | 2 => .object "CourtWash$Wash"
  | 3 => .object "CourtWash$Wash"
  | 4 => .object "CourtWash$Wash"
  | 5 => .object "CourtWash$Wash"
  | 6 => .object "CourtWash$Wash"
  | 7 => .object "CourtWash$Trace"
  | 8 => .array .int
  | 9 => .array .int
  | 10 => .array .int
  | 11 => .int
  | 12 => .int
  | 13 => .int
  | _ => .int
theorem nmX11 : ∀ a, a < 15 → ∀ b, b < 15 → a ≠ b → (TX11 a).2.1 ≠ (TX11 b).2.1 := by decide +kernel
theorem tyX11_ok : ∀ k, k < 15 → parseFieldDescriptor (TX11 k).2.2.1 = some (tyX11 k) := by decide +kernel
abbrev cX11_init : ByteArray := prog_1_method_1_code
def yX11_init : MethodName := ⟨RX11, "<init>", "()V"⟩
abbrev cX11_row : ByteArray := prog_1_method_2_code
def yX11_row : MethodName := ⟨RX11, "row", "(III)I"⟩
abbrev cX11_set : ByteArray := prog_1_method_3_code
def yX11_set : MethodName := ⟨RX11, "set", "(III)I"⟩
abbrev cX11_copy : ByteArray := prog_1_method_4_code
def yX11_copy : MethodName := ⟨RX11, "copy", "(IIIII)I"⟩
abbrev cX11_drop : ByteArray := prog_1_method_5_code
def yX11_drop : MethodName := ⟨RX11, "drop", "(I)I"⟩
abbrev cX11_feed : ByteArray := prog_1_method_6_code
def yX11_feed : MethodName := ⟨RX11, "feed", "(JI)I"⟩
abbrev cX11_court : ByteArray := prog_1_method_7_code
def yX11_court : MethodName := ⟨RX11, "court", "()I"⟩
abbrev cX11_fault : ByteArray := prog_1_method_8_code
def yX11_fault : MethodName := ⟨RX11, "fault", "()I"⟩
abbrev cX11_hang : ByteArray := prog_1_method_9_code
def yX11_hang : MethodName := ⟨RX11, "hang", "(II)I"⟩
abbrev cX11_take : ByteArray := prog_1_method_10_code
def yX11_take : MethodName := ⟨RX11, "take", "(I)I"⟩
abbrev cX11_quarters : ByteArray := prog_1_method_11_code
def yX11_quarters : MethodName := ⟨RX11, "quarters", "(I)I"⟩
abbrev cX11_lay : ByteArray := prog_1_method_12_code
def yX11_lay : MethodName := ⟨RX11, "lay", "(II)I"⟩
abbrev cX11_piece : ByteArray := prog_1_method_13_code
def yX11_piece : MethodName := ⟨RX11, "piece", "(II)I"⟩
abbrev cX11_line : ByteArray := prog_1_method_14_code
def yX11_line : MethodName := ⟨RX11, "line", "(II)I"⟩
abbrev cX11_dry : ByteArray := prog_1_method_15_code
def yX11_dry : MethodName := ⟨RX11, "dry", "()I"⟩
abbrev cX11_plan : ByteArray := prog_1_method_16_code
def yX11_plan : MethodName := ⟨RX11, "plan", "(II)I"⟩
abbrev cX11_whose : ByteArray := prog_1_method_17_code
def yX11_whose : MethodName := ⟨RX11, "whose", "(II)I"⟩
abbrev cX11_sun : ByteArray := prog_1_method_18_code
def yX11_sun : MethodName := ⟨RX11, "sun", "(II)I"⟩
abbrev cX11_rings : ByteArray := prog_1_method_19_code
def yX11_rings : MethodName := ⟨RX11, "rings", "(III)I"⟩
abbrev cX11_rain : ByteArray := prog_1_method_20_code
def yX11_rain : MethodName := ⟨RX11, "rain", "(II)I"⟩
abbrev cX11_image : ByteArray := prog_1_method_21_code
def yX11_image : MethodName := ⟨RX11, "image", "(I)I"⟩
abbrev cX11_restore : ByteArray := prog_1_method_22_code
def yX11_restore : MethodName := ⟨RX11, "restore", "(I)I"⟩
abbrev cX11_kind : ByteArray := prog_1_method_23_code
def yX11_kind : MethodName := ⟨RX11, "kind", "(I)I"⟩
abbrev cX11_as : ByteArray := prog_1_method_24_code
def yX11_as : MethodName := ⟨RX11, "as", "(II)I"⟩
abbrev cX11_ask : ByteArray := prog_1_method_25_code
def yX11_ask : MethodName := ⟨RX11, "ask", "(II)I"⟩
abbrev cX11_trace : ByteArray := prog_1_method_26_code
def yX11_trace : MethodName := ⟨RX11, "trace", "(I)I"⟩
abbrev cX11_count : ByteArray := prog_1_method_27_code
def yX11_count : MethodName := ⟨RX11, "count", "(I)I"⟩
abbrev cX11_status : ByteArray := prog_1_method_28_code
def yX11_status : MethodName := ⟨RX11, "status", "()I"⟩
abbrev cX11_isIn : ByteArray := prog_1_method_29_code
def yX11_isIn : MethodName := ⟨RX11, "isIn", "(III)Z"⟩
abbrev cX11_found : ByteArray := prog_1_method_30_code
def yX11_found : MethodName := ⟨RX11, "found", "(I)I"⟩
abbrev cX11_unfound : ByteArray := prog_1_method_31_code
def yX11_unfound : MethodName := ⟨RX11, "unfound", "(I)I"⟩
abbrev cX11_noCourt : ByteArray := prog_1_method_32_code
def yX11_noCourt : MethodName := ⟨RX11, "noCourt", "()Z"⟩
abbrev cX11_isPiece : ByteArray := prog_1_method_33_code
def yX11_isPiece : MethodName := ⟨RX11, "isPiece", "(I)Z"⟩
abbrev cX11_isLine : ByteArray := prog_1_method_34_code
def yX11_isLine : MethodName := ⟨RX11, "isLine", "(I)Z"⟩
abbrev cX11_imageOf : ByteArray := prog_1_method_35_code
def yX11_imageOf : MethodName := ⟨RX11, "imageOf", "(I)LCourtWash$Wash;"⟩
abbrev cX11_draftLaid : ByteArray := prog_1_method_36_code
def yX11_draftLaid : MethodName := ⟨RX11, "draftLaid", "(II)I"⟩
abbrev cX11_hangsAbove : ByteArray := prog_1_method_37_code
def yX11_hangsAbove : MethodName := ⟨RX11, "hangsAbove", "(III)Z"⟩
abbrev cX11_findPlan : ByteArray := prog_1_method_38_code
def yX11_findPlan : MethodName := ⟨RX11, "findPlan", "(I)V"⟩
abbrev cX11_leastTimeAlone : ByteArray := prog_1_method_39_code
def yX11_leastTimeAlone : MethodName := ⟨RX11, "leastTimeAlone", "(I)I"⟩
abbrev cX11_planPiece : ByteArray := prog_1_method_40_code
def yX11_planPiece : MethodName := ⟨RX11, "planPiece", "(II)V"⟩
abbrev cX11_keepOrGoOn : ByteArray := prog_1_method_41_code
def yX11_keepOrGoOn : MethodName := ⟨RX11, "keepOrGoOn", "(III)V"⟩
abbrev cX11_timeUntilDry : ByteArray := prog_1_method_42_code
def yX11_timeUntilDry : MethodName := ⟨RX11, "timeUntilDry", "(III)I"⟩
abbrev cX11_linesByRings : ByteArray := prog_1_method_43_code
def yX11_linesByRings : MethodName := ⟨RX11, "linesByRings", "([I)[I"⟩
abbrev cX11_likedMost : ByteArray := prog_1_method_44_code
def yX11_likedMost : MethodName := ⟨RX11, "likedMost", "(I[I[I)I"⟩
abbrev cX11_likesMore : ByteArray := prog_1_method_45_code
def yX11_likesMore : MethodName := ⟨RX11, "likesMore", "(III)Z"⟩
abbrev cX11_isInRing : ByteArray := prog_1_method_46_code
def yX11_isInRing : MethodName := ⟨RX11, "isInRing", "(I[I)Z"⟩
abbrev cX11_yardsWet : ByteArray := prog_1_method_47_code
def yX11_yardsWet : MethodName := ⟨RX11, "yardsWet", "(I)I"⟩
abbrev cX11_takenNext : ByteArray := prog_1_method_48_code
def yX11_takenNext : MethodName := ⟨RX11, "takenNext", "(I)I"⟩
abbrev cX11_pieceAsked : ByteArray := prog_1_method_49_code
def yX11_pieceAsked : MethodName := ⟨RX11, "pieceAsked", "(I)LCourtWash$Piece;"⟩
abbrev cX11_isOfKind : ByteArray := prog_1_method_50_code
def yX11_isOfKind : MethodName := ⟨RX11, "isOfKind", "(LCourtWash$Piece;I)Z"⟩
def RX12 : String := "CourtWashModel"
def TX12 : u_T := fun k => match k with
  | 0 => ("CourtWashModel", "thrown", "I", false)
  | 1 => ("CourtWashModel", "status", "I", false)
  | 2 => ("CourtWashModel", "lane", "[I", true)
  | 3 => ("CourtWashModel", "many", "[I", true)
  | 4 => ("CourtWashModel", "item", "[I", true)
  | 5 => ("CourtWashModel", "court", "[I", true)
  | 6 => ("CourtWashModel", "fresh", "[I", true)
  | 7 => ("CourtWashModel", "isThere", "Z", false)
  | 8 => ("CourtWashModel", "tape", "[I", true)
  | 9 => ("CourtWashModel", "taped", "I", false)
  | 10 => ("CourtWashModel", "latest", "I", false)
  | 11 => ("CourtWashModel", "length", "I", false)
  | 12 => ("CourtWashModel", "cursor", "I", false)
  | 13 => ("CourtWashModel", "token", "I", false)
  | 14 => ("CourtWashModel", "start", "I", false)
  | 15 => ("CourtWashModel", "till", "I", false)
  | 16 => ("CourtWashModel", "fault", "I", false)
  | 17 => ("CourtWashModel", "faultAt", "I", false)
  | 18 => ("CourtWashModel", "hung", "[I", true)
  | 19 => ("CourtWashModel", "wet", "[I", true)
  | 20 => ("CourtWashModel", "stained", "I", false)
  | 21 => ("CourtWashModel", "has", "[I", true)
  | 22 => ("CourtWashModel", "gets", "[I", true)
  | 23 => ("CourtWashModel", "points", "[I", true)
  | 24 => ("CourtWashModel", "isKept", "[Z", true)
  | 25 => ("CourtWashModel", "kept", "[I", true)
  | 26 => ("CourtWashModel", "trace", "[I", true)
  | _ => ("CourtWashModel", "traced", "I", false)
def tyX12 : Nat → FieldType := fun k => match k with
  | 0 => .int
  | 1 => .int
  | 2 => .array .int
  | 3 => .array .int
  | 4 => .array .int
  | 5 => .array .int
  | 6 => .array .int
  | 7 => .boolean
  | 8 => .array .int
  | 9 => .int
  | 10 => .int
  | 11 => .int
  | 12 => .int
  | 13 => .int
  | 14 => .int
  | 15 => .int
  | 16 => .int
  | 17 => .int
  | 18 => .array .int
  | 19 => .array .int
  | 20 => .int
  | 21 => .array .int
  | 22 => .array .int
  | 23 => .array .int
  | 24 => .array .boolean
  | 25 => .array .int
  | 26 => .array .int
  | _ => .int
theorem nmX12 : ∀ a, a < 28 → ∀ b, b < 28 → a ≠ b → (TX12 a).2.1 ≠ (TX12 b).2.1 := by decide +kernel
theorem tyX12_ok : ∀ k, k < 28 → parseFieldDescriptor (TX12 k).2.2.1 = some (tyX12 k) := by decide +kernel
abbrev cX12_init : ByteArray := prog_14_method_1_code
def yX12_init : MethodName := ⟨RX12, "<init>", "()V"⟩
abbrev cX12_in : ByteArray := prog_14_method_3_code
def yX12_in : MethodName := ⟨RX12, "in", "(JJJ)Z"⟩
abbrev cX12_finding : ByteArray := prog_14_method_4_code
def yX12_finding : MethodName := ⟨RX12, "finding", "(I)I"⟩
abbrev cX12_isRow : ByteArray := prog_14_method_5_code
def yX12_isRow : MethodName := ⟨RX12, "isRow", "(I)Z"⟩
abbrev cX12_row : ByteArray := prog_14_method_6_code
def yX12_row : MethodName := ⟨RX12, "row", "(III)I"⟩
abbrev cX12_set : ByteArray := prog_14_method_7_code
def yX12_set : MethodName := ⟨RX12, "set", "(III)I"⟩
abbrev cX12_copy : ByteArray := prog_14_method_8_code
def yX12_copy : MethodName := ⟨RX12, "copy", "(IIIII)I"⟩
abbrev cX12_drop : ByteArray := prog_14_method_9_code
def yX12_drop : MethodName := ⟨RX12, "drop", "(I)I"⟩
abbrev cX12_feed : ByteArray := prog_14_method_10_code
def yX12_feed : MethodName := ⟨RX12, "feed", "(JI)I"⟩
abbrev cX12_byteAt : ByteArray := prog_14_method_11_code
def yX12_byteAt : MethodName := ⟨RX12, "byteAt", "(I)I"⟩
abbrev cX12_isLetter : ByteArray := prog_14_method_12_code
def yX12_isLetter : MethodName := ⟨RX12, "isLetter", "(I)Z"⟩
abbrev cX12_isFigure : ByteArray := prog_14_method_13_code
def yX12_isFigure : MethodName := ⟨RX12, "isFigure", "(I)Z"⟩
abbrev cX12_next : ByteArray := prog_14_method_14_code
def yX12_next : MethodName := ⟨RX12, "next", "()V"⟩
abbrev cX12_begin : ByteArray := prog_14_method_15_code
def yX12_begin : MethodName := ⟨RX12, "begin", "()V"⟩
abbrev cX12_bad : ByteArray := prog_14_method_16_code
def yX12_bad : MethodName := ⟨RX12, "bad", "(I)V"⟩
abbrev cX12_must : ByteArray := prog_14_method_17_code
def yX12_must : MethodName := ⟨RX12, "must", "(Z)V"⟩
abbrev cX12_name : ByteArray := prog_14_method_18_code
def yX12_name : MethodName := ⟨RX12, "name", "()J"⟩
abbrev cX12_figures : ByteArray := prog_14_method_19_code
def yX12_figures : MethodName := ⟨RX12, "figures", "()I"⟩
abbrev cX12_number : ByteArray := prog_14_method_20_code
def yX12_number : MethodName := ⟨RX12, "number", "(II)I"⟩
abbrev cX12_kindBy : ByteArray := prog_14_method_21_code
def yX12_kindBy : MethodName := ⟨RX12, "kindBy", "(J)I"⟩
abbrev cX12_mustEnd : ByteArray := prog_14_method_22_code
def yX12_mustEnd : MethodName := ⟨RX12, "mustEnd", "()V"⟩
abbrev cX12_begins : ByteArray := prog_14_method_23_code
def yX12_begins : MethodName := ⟨RX12, "begins", "(II)V"⟩
abbrev cX12_isTold : ByteArray := prog_14_method_24_code
def yX12_isTold : MethodName := ⟨RX12, "isTold", "(II)Z"⟩
abbrev cX12_readDay : ByteArray := prog_14_method_25_code
def yX12_readDay : MethodName := ⟨RX12, "readDay", "()V"⟩
abbrev cX12_readLine : ByteArray := prog_14_method_26_code
def yX12_readLine : MethodName := ⟨RX12, "readLine", "()V"⟩
abbrev cX12_readRight : ByteArray := prog_14_method_27_code
def yX12_readRight : MethodName := ⟨RX12, "readRight", "()V"⟩
abbrev cX12_readPiece : ByteArray := prog_14_method_28_code
def yX12_readPiece : MethodName := ⟨RX12, "readPiece", "()V"⟩
abbrev cX12_court : ByteArray := prog_14_method_29_code
def yX12_court : MethodName := ⟨RX12, "court", "()I"⟩
abbrev cX12_fault : ByteArray := prog_14_method_30_code
def yX12_fault : MethodName := ⟨RX12, "fault", "()I"⟩
abbrev cX12_isLine : ByteArray := prog_14_method_31_code
def yX12_isLine : MethodName := ⟨RX12, "isLine", "(I)Z"⟩
abbrev cX12_isPiece : ByteArray := prog_14_method_32_code
def yX12_isPiece : MethodName := ⟨RX12, "isPiece", "(I)Z"⟩
abbrev cX12_of : ByteArray := prog_14_method_33_code
def yX12_of : MethodName := ⟨RX12, "of", "(II)I"⟩
abbrev cX12_floor : ByteArray := prog_14_method_34_code
def yX12_floor : MethodName := ⟨RX12, "floor", "(I)I"⟩
abbrev cX12_below : ByteArray := prog_14_method_35_code
def yX12_below : MethodName := ⟨RX12, "below", "(I)I"⟩
abbrev cX12_rightsTo : ByteArray := prog_14_method_36_code
def yX12_rightsTo : MethodName := ⟨RX12, "rightsTo", "(I)I"⟩
abbrev cX12_layNow : ByteArray := prog_14_method_37_code
def yX12_layNow : MethodName := ⟨RX12, "layNow", "()V"⟩
abbrev cX12_keepNow : ByteArray := prog_14_method_38_code
def yX12_keepNow : MethodName := ⟨RX12, "keepNow", "()V"⟩
abbrev cX12_yardsOn : ByteArray := prog_14_method_39_code
def yX12_yardsOn : MethodName := ⟨RX12, "yardsOn", "(I)I"⟩
abbrev cX12_hasSheet : ByteArray := prog_14_method_40_code
def yX12_hasSheet : MethodName := ⟨RX12, "hasSheet", "(I)Z"⟩
abbrev cX12_comes : ByteArray := prog_14_method_41_code
def yX12_comes : MethodName := ⟨RX12, "comes", "(II)I"⟩
abbrev cX12_hang : ByteArray := prog_14_method_42_code
def yX12_hang : MethodName := ⟨RX12, "hang", "(II)I"⟩
abbrev cX12_take : ByteArray := prog_14_method_43_code
def yX12_take : MethodName := ⟨RX12, "take", "(I)I"⟩
abbrev cX12_hasSun : ByteArray := prog_14_method_44_code
def yX12_hasSun : MethodName := ⟨RX12, "hasSun", "(III)Z"⟩
abbrev cX12_dries : ByteArray := prog_14_method_45_code
def yX12_dries : MethodName := ⟨RX12, "dries", "(II)V"⟩
abbrev cX12_isReddish : ByteArray := prog_14_method_46_code
def yX12_isReddish : MethodName := ⟨RX12, "isReddish", "(I)Z"⟩
abbrev cX12_goOn : ByteArray := prog_14_method_47_code
def yX12_goOn : MethodName := ⟨RX12, "goOn", "(I)V"⟩
abbrev cX12_quarters : ByteArray := prog_14_method_48_code
def yX12_quarters : MethodName := ⟨RX12, "quarters", "(I)I"⟩
abbrev cX12_lay : ByteArray := prog_14_method_49_code
def yX12_lay : MethodName := ⟨RX12, "lay", "(II)I"⟩
abbrev cX12_piece : ByteArray := prog_14_method_50_code
def yX12_piece : MethodName := ⟨RX12, "piece", "(II)I"⟩
abbrev cX12_hangOn : ByteArray := prog_14_method_51_code
def yX12_hangOn : MethodName := ⟨RX12, "hangOn", "(I)I"⟩
abbrev cX12_line : ByteArray := prog_14_method_52_code
def yX12_line : MethodName := ⟨RX12, "line", "(II)I"⟩
abbrev cX12_areDry : ByteArray := prog_14_method_53_code
def yX12_areDry : MethodName := ⟨RX12, "areDry", "(I)Z"⟩
abbrev cX12_dry : ByteArray := prog_14_method_54_code
def yX12_dry : MethodName := ⟨RX12, "dry", "()I"⟩
abbrev cX12_dryBy : ByteArray := prog_14_method_55_code
def yX12_dryBy : MethodName := ⟨RX12, "dryBy", "(II)I"⟩
abbrev cX12_plan : ByteArray := prog_14_method_56_code
def yX12_plan : MethodName := ⟨RX12, "plan", "(II)I"⟩
abbrev cX12_whose : ByteArray := prog_14_method_57_code
def yX12_whose : MethodName := ⟨RX12, "whose", "(II)I"⟩
abbrev cX12_sunsOf : ByteArray := prog_14_method_58_code
def yX12_sunsOf : MethodName := ⟨RX12, "sunsOf", "(IIII)I"⟩
abbrev cX12_sun : ByteArray := prog_14_method_59_code
def yX12_sun : MethodName := ⟨RX12, "sun", "(II)I"⟩
abbrev cX12_point : ByteArray := prog_14_method_60_code
def yX12_point : MethodName := ⟨RX12, "point", "(II)V"⟩
abbrev cX12_isInRing : ByteArray := prog_14_method_61_code
def yX12_isInRing : MethodName := ⟨RX12, "isInRing", "(II)Z"⟩
abbrev cX12_turn : ByteArray := prog_14_method_62_code
def yX12_turn : MethodName := ⟨RX12, "turn", "(I)Z"⟩
abbrev cX12_rings : ByteArray := prog_14_method_63_code
def yX12_rings : MethodName := ⟨RX12, "rings", "(III)I"⟩
abbrev cX12_nextIn : ByteArray := prog_14_method_64_code
def yX12_nextIn : MethodName := ⟨RX12, "nextIn", "(I)I"⟩
abbrev cX12_rain : ByteArray := prog_14_method_65_code
def yX12_rain : MethodName := ⟨RX12, "rain", "(II)I"⟩
abbrev cX12_image : ByteArray := prog_14_method_66_code
def yX12_image : MethodName := ⟨RX12, "image", "(I)I"⟩
abbrev cX12_restore : ByteArray := prog_14_method_67_code
def yX12_restore : MethodName := ⟨RX12, "restore", "(I)I"⟩
abbrev cX12_isOf : ByteArray := prog_14_method_68_code
def yX12_isOf : MethodName := ⟨RX12, "isOf", "(II)Z"⟩
abbrev cX12_kind : ByteArray := prog_14_method_69_code
def yX12_kind : MethodName := ⟨RX12, "kind", "(I)I"⟩
abbrev cX12_as : ByteArray := prog_14_method_70_code
def yX12_as : MethodName := ⟨RX12, "as", "(II)I"⟩
abbrev cX12_began : ByteArray := prog_14_method_71_code
def yX12_began : MethodName := ⟨RX12, "began", "(I)V"⟩
abbrev cX12_redMark : ByteArray := prog_14_method_72_code
def yX12_redMark : MethodName := ⟨RX12, "redMark", "(I)I"⟩
abbrev cX12_plainSize : ByteArray := prog_14_method_73_code
def yX12_plainSize : MethodName := ⟨RX12, "plainSize", "(I)I"⟩
abbrev cX12_sizeOf : ByteArray := prog_14_method_74_code
def yX12_sizeOf : MethodName := ⟨RX12, "sizeOf", "(I)I"⟩
abbrev cX12_markOf : ByteArray := prog_14_method_75_code
def yX12_markOf : MethodName := ⟨RX12, "markOf", "(I)I"⟩
abbrev cX12_ask : ByteArray := prog_14_method_76_code
def yX12_ask : MethodName := ⟨RX12, "ask", "(II)I"⟩
abbrev cX12_trace : ByteArray := prog_14_method_77_code
def yX12_trace : MethodName := ⟨RX12, "trace", "(I)I"⟩
abbrev cX12_count : ByteArray := prog_14_method_78_code
def yX12_count : MethodName := ⟨RX12, "count", "(I)I"⟩
abbrev cX12_status : ByteArray := prog_14_method_79_code
def yX12_status : MethodName := ⟨RX12, "status", "()I"⟩
def RJ6 : String := "java/lang/Integer"
abbrev cJ6_bitCount_0f7a4 : ByteArray := prog_16_method_49_code
def yJ6_bitCount_0f7a4 : MethodName := ⟨RJ6, "bitCount", "(I)I"⟩
def RJ9 : String := "java/lang/Math"
abbrev cJ9_floorMod_7cf53 : ByteArray := prog_17_method_50_code
def yJ9_floorMod_7cf53 : MethodName := ⟨RJ9, "floorMod", "(II)I"⟩
abbrev cJ9_max_7cf53 : ByteArray := prog_17_method_65_code
def yJ9_max_7cf53 : MethodName := ⟨RJ9, "max", "(II)I"⟩
abbrev cJ9_min_7cf53 : ByteArray := prog_17_method_69_code
def yJ9_min_7cf53 : MethodName := ⟨RJ9, "min", "(II)I"⟩
def RJ0 : String := "java/lang/String"
abbrev cJ0_length_8abf5 : ByteArray := prog_18_method_54_code
def yJ0_length_8abf5 : MethodName := ⟨RJ0, "length", "()I"⟩
abbrev cJ0_charAt_5068e : ByteArray := prog_18_method_56_code
def yJ0_charAt_5068e : MethodName := ⟨RJ0, "charAt", "(I)C"⟩
abbrev cJ0_coder_7d493 : ByteArray := prog_18_method_152_code
def yJ0_coder_7d493 : MethodName := ⟨RJ0, "coder", "()B"⟩
abbrev cJ0_isLatin1_aae02 : ByteArray := prog_18_method_154_code
def yJ0_isLatin1_aae02 : MethodName := ⟨RJ0, "isLatin1", "()Z"⟩
abbrev cJ0_checkIndex_df160 : ByteArray := prog_18_method_155_code
def yJ0_checkIndex_df160 : MethodName := ⟨RJ0, "checkIndex", "(II)V"⟩
def RJ1 : String := "java/lang/StringLatin1"
abbrev cJ1_charAt_3b067 : ByteArray := prog_19_method_2_code
def yJ1_charAt_3b067 : MethodName := ⟨RJ1, "charAt", "([BI)C"⟩
def RJ2 : String := "java/lang/StringUTF16"
abbrev cJ2_getChar_3b067 : ByteArray := prog_20_method_5_code
def yJ2_getChar_3b067 : MethodName := ⟨RJ2, "getChar", "([BI)C"⟩
abbrev cJ2_length_9d52b : ByteArray := prog_20_method_6_code
def yJ2_length_9d52b : MethodName := ⟨RJ2, "length", "([B)I"⟩
abbrev cJ2_charAt_3b067 : ByteArray := prog_20_method_83_code
def yJ2_charAt_3b067 : MethodName := ⟨RJ2, "charAt", "([BI)C"⟩
abbrev cJ2_checkIndex_2214a : ByteArray := prog_20_method_91_code
def yJ2_checkIndex_2214a : MethodName := ⟨RJ2, "checkIndex", "(I[B)V"⟩
def RJ10 : String := "java/lang/System"
def RJ7 : String := "java/util/Arrays"
abbrev cJ7_rangeCheck_23922 : ByteArray := prog_22_method_30_code
def yJ7_rangeCheck_23922 : MethodName := ⟨RJ7, "rangeCheck", "(III)V"⟩
abbrev cJ7_fill_53178 : ByteArray := prog_22_method_103_code
def yJ7_fill_53178 : MethodName := ⟨RJ7, "fill", "([II)V"⟩
abbrev cJ7_fill_fda19 : ByteArray := prog_22_method_104_code
def yJ7_fill_fda19 : MethodName := ⟨RJ7, "fill", "([IIII)V"⟩
abbrev cJ7_checkLength_df160 : ByteArray := prog_22_method_131_code
def yJ7_checkLength_df160 : MethodName := ⟨RJ7, "checkLength", "(II)V"⟩
abbrev cJ7_copyOfRange_feecc : ByteArray := prog_22_method_136_code
def yJ7_copyOfRange_feecc : MethodName := ⟨RJ7, "copyOfRange", "([III)[I"⟩
abbrev cJ7_copyOfRangeInt_feecc : ByteArray := prog_22_method_137_code
def yJ7_copyOfRangeInt_feecc : MethodName := ⟨RJ7, "copyOfRangeInt", "([III)[I"⟩
def RJ3 : String := "jdk/internal/util/Preconditions"
abbrev cJ3_checkIndex_8e157 : ByteArray := prog_23_method_11_code
def yJ3_checkIndex_8e157 : MethodName := ⟨RJ3, "checkIndex", "(IILjava/util/function/BiFunction;)I"⟩
def RL : String := "CourtWashLaw"
abbrev cL_law : ByteArray := code
def yL_law : MethodName := ⟨RL, "law", "([I)Z"⟩
