section
-- ===== PART A: goes FIRST, ahead of the names: the tables' words, and 'selects' of the private methods out of them =====
/-- a private method of a class that the tables say can be made, by its rows of tables_1 -/
def lw_okq (q : MethodName × Nat) : Prop := (q.1.cls ≠ "java/lang/invoke/MethodHandle" ∧ q.1.cls ≠ "java/lang/invoke/VarHandle") ∧ Cond.instantiable q.1.cls q.2 ∈ tables_1 ∧ Cond.privateMethod q.1 ∈ tables_1 ∧ Cond.instanceMethod q.1 ∈ tables_1
theorem lw_p0 : lw_okq (⟨"CourtWash", "found", "(I)I"⟩, 15) := ⟨⟨by decide +kernel, by decide +kernel⟩, List.mem_of_getElem? (i := 23) (by decide +kernel), List.mem_of_getElem? (i := 268) (by decide +kernel), List.mem_of_getElem? (i := 269) (by decide +kernel)⟩
theorem lw_p1 : lw_okq (⟨"CourtWash", "unfound", "(I)I"⟩, 15) := ⟨⟨by decide +kernel, by decide +kernel⟩, List.mem_of_getElem? (i := 23) (by decide +kernel), List.mem_of_getElem? (i := 283) (by decide +kernel), List.mem_of_getElem? (i := 284) (by decide +kernel)⟩
theorem lw_p2 : lw_okq (⟨"CourtWash$Reader", "nextToken", "()V"⟩, 7) := ⟨⟨by decide +kernel, by decide +kernel⟩, List.mem_of_getElem? (i := 51) (by decide +kernel), List.mem_of_getElem? (i := 352) (by decide +kernel), List.mem_of_getElem? (i := 353) (by decide +kernel)⟩
theorem lw_p3 : lw_okq (⟨"CourtWash$Reader", "sortAt", "(I)I"⟩, 7) := ⟨⟨by decide +kernel, by decide +kernel⟩, List.mem_of_getElem? (i := 51) (by decide +kernel), List.mem_of_getElem? (i := 356) (by decide +kernel), List.mem_of_getElem? (i := 357) (by decide +kernel)⟩
theorem lw_p4 : lw_okq (⟨"CourtWash$Reader", "readDay", "(LCourtWash$Court;)V"⟩, 7) := ⟨⟨by decide +kernel, by decide +kernel⟩, List.mem_of_getElem? (i := 51) (by decide +kernel), List.mem_of_getElem? (i := 364) (by decide +kernel), List.mem_of_getElem? (i := 365) (by decide +kernel)⟩
theorem lw_p5 : lw_okq (⟨"CourtWash$Reader", "readWord", "(Ljava/lang/String;Z)V"⟩, 7) := ⟨⟨by decide +kernel, by decide +kernel⟩, List.mem_of_getElem? (i := 51) (by decide +kernel), List.mem_of_getElem? (i := 369) (by decide +kernel), List.mem_of_getElem? (i := 370) (by decide +kernel)⟩
theorem lw_p6 : lw_okq (⟨"CourtWash$Reader", "isNext", "(Ljava/lang/String;)Z"⟩, 7) := ⟨⟨by decide +kernel, by decide +kernel⟩, List.mem_of_getElem? (i := 51) (by decide +kernel), List.mem_of_getElem? (i := 373) (by decide +kernel), List.mem_of_getElem? (i := 374) (by decide +kernel)⟩
theorem lw_p7 : lw_okq (⟨"CourtWash$Reader", "failAt", "(II)V"⟩, 7) := ⟨⟨by decide +kernel, by decide +kernel⟩, List.mem_of_getElem? (i := 51) (by decide +kernel), List.mem_of_getElem? (i := 425) (by decide +kernel), List.mem_of_getElem? (i := 426) (by decide +kernel)⟩
theorem lw_p8 : lw_okq (⟨"CourtWash$Reader", "readNumber", "(II)I"⟩, 7) := ⟨⟨by decide +kernel, by decide +kernel⟩, List.mem_of_getElem? (i := 51) (by decide +kernel), List.mem_of_getElem? (i := 429) (by decide +kernel), List.mem_of_getElem? (i := 430) (by decide +kernel)⟩
theorem lw_p9 : lw_okq (⟨"CourtWash$Reader", "numberOfToken", "()I"⟩, 7) := ⟨⟨by decide +kernel, by decide +kernel⟩, List.mem_of_getElem? (i := 51) (by decide +kernel), List.mem_of_getElem? (i := 433) (by decide +kernel), List.mem_of_getElem? (i := 434) (by decide +kernel)⟩
theorem lw_p10 : lw_okq (⟨"CourtWash$Reader", "readSign", "()V"⟩, 7) := ⟨⟨by decide +kernel, by decide +kernel⟩, List.mem_of_getElem? (i := 51) (by decide +kernel), List.mem_of_getElem? (i := 437) (by decide +kernel), List.mem_of_getElem? (i := 438) (by decide +kernel)⟩
theorem lw_p11 : lw_okq (⟨"CourtWash$Reader", "readLines", "(LCourtWash$Court;)V"⟩, 7) := ⟨⟨by decide +kernel, by decide +kernel⟩, List.mem_of_getElem? (i := 51) (by decide +kernel), List.mem_of_getElem? (i := 441) (by decide +kernel), List.mem_of_getElem? (i := 442) (by decide +kernel)⟩
theorem lw_p12 : lw_okq (⟨"CourtWash$Reader", "readLine", "(LCourtWash$Court;)V"⟩, 7) := ⟨⟨by decide +kernel, by decide +kernel⟩, List.mem_of_getElem? (i := 51) (by decide +kernel), List.mem_of_getElem? (i := 445) (by decide +kernel), List.mem_of_getElem? (i := 446) (by decide +kernel)⟩
theorem lw_p13 : lw_okq (⟨"CourtWash$Reader", "readRights", "(LCourtWash$Court;)V"⟩, 7) := ⟨⟨by decide +kernel, by decide +kernel⟩, List.mem_of_getElem? (i := 51) (by decide +kernel), List.mem_of_getElem? (i := 458) (by decide +kernel), List.mem_of_getElem? (i := 459) (by decide +kernel)⟩
theorem lw_p14 : lw_okq (⟨"CourtWash$Reader", "readRight", "(LCourtWash$Court;)V"⟩, 7) := ⟨⟨by decide +kernel, by decide +kernel⟩, List.mem_of_getElem? (i := 51) (by decide +kernel), List.mem_of_getElem? (i := 463) (by decide +kernel), List.mem_of_getElem? (i := 464) (by decide +kernel)⟩
theorem lw_p15 : lw_okq (⟨"CourtWash$Reader", "readPieces", "(LCourtWash$Court;)V"⟩, 7) := ⟨⟨by decide +kernel, by decide +kernel⟩, List.mem_of_getElem? (i := 51) (by decide +kernel), List.mem_of_getElem? (i := 471) (by decide +kernel), List.mem_of_getElem? (i := 472) (by decide +kernel)⟩
def lw_privs_1 : List (MethodName × Nat) := [(⟨"CourtWash", "found", "(I)I"⟩, 15), (⟨"CourtWash", "unfound", "(I)I"⟩, 15), (⟨"CourtWash$Reader", "nextToken", "()V"⟩, 7), (⟨"CourtWash$Reader", "sortAt", "(I)I"⟩, 7), (⟨"CourtWash$Reader", "readDay", "(LCourtWash$Court;)V"⟩, 7), (⟨"CourtWash$Reader", "readWord", "(Ljava/lang/String;Z)V"⟩, 7), (⟨"CourtWash$Reader", "isNext", "(Ljava/lang/String;)Z"⟩, 7), (⟨"CourtWash$Reader", "failAt", "(II)V"⟩, 7), (⟨"CourtWash$Reader", "readNumber", "(II)I"⟩, 7), (⟨"CourtWash$Reader", "numberOfToken", "()I"⟩, 7), (⟨"CourtWash$Reader", "readSign", "()V"⟩, 7), (⟨"CourtWash$Reader", "readLines", "(LCourtWash$Court;)V"⟩, 7), (⟨"CourtWash$Reader", "readLine", "(LCourtWash$Court;)V"⟩, 7), (⟨"CourtWash$Reader", "readRights", "(LCourtWash$Court;)V"⟩, 7), (⟨"CourtWash$Reader", "readRight", "(LCourtWash$Court;)V"⟩, 7), (⟨"CourtWash$Reader", "readPieces", "(LCourtWash$Court;)V"⟩, 7)]
theorem lw_r1 : ∀ q ∈ lw_privs_1, lw_okq q := List.forall_mem_cons.mpr ⟨lw_p0, List.forall_mem_cons.mpr ⟨lw_p1, List.forall_mem_cons.mpr ⟨lw_p2, List.forall_mem_cons.mpr ⟨lw_p3, List.forall_mem_cons.mpr ⟨lw_p4, List.forall_mem_cons.mpr ⟨lw_p5, List.forall_mem_cons.mpr ⟨lw_p6, List.forall_mem_cons.mpr ⟨lw_p7, List.forall_mem_cons.mpr ⟨lw_p8, List.forall_mem_cons.mpr ⟨lw_p9, List.forall_mem_cons.mpr ⟨lw_p10, List.forall_mem_cons.mpr ⟨lw_p11, List.forall_mem_cons.mpr ⟨lw_p12, List.forall_mem_cons.mpr ⟨lw_p13, List.forall_mem_cons.mpr ⟨lw_p14, List.forall_mem_cons.mpr ⟨lw_p15, fun _ h => absurd h List.not_mem_nil⟩⟩⟩⟩⟩⟩⟩⟩⟩⟩⟩⟩⟩⟩⟩⟩
theorem lw_p16 : lw_okq (⟨"CourtWash$Reader", "readPiece", "(LCourtWash$Court;)V"⟩, 7) := ⟨⟨by decide +kernel, by decide +kernel⟩, List.mem_of_getElem? (i := 51) (by decide +kernel), List.mem_of_getElem? (i := 476) (by decide +kernel), List.mem_of_getElem? (i := 477) (by decide +kernel)⟩
theorem lw_p17 : lw_okq (⟨"CourtWash$Reader", "readKind", "()I"⟩, 7) := ⟨⟨by decide +kernel, by decide +kernel⟩, List.mem_of_getElem? (i := 51) (by decide +kernel), List.mem_of_getElem? (i := 480) (by decide +kernel), List.mem_of_getElem? (i := 481) (by decide +kernel)⟩
theorem lw_p18 : lw_okq (⟨"CourtWash$Court", "nextBelow", "(I)I"⟩, 16) := ⟨⟨by decide +kernel, by decide +kernel⟩, List.mem_of_getElem? (i := 98) (by decide +kernel), List.mem_of_getElem? (i := 500) (by decide +kernel), List.mem_of_getElem? (i := 501) (by decide +kernel)⟩
theorem lw_p19 : lw_okq (⟨"CourtWash", "isPiece", "(I)Z"⟩, 15) := ⟨⟨by decide +kernel, by decide +kernel⟩, List.mem_of_getElem? (i := 23) (by decide +kernel), List.mem_of_getElem? (i := 517) (by decide +kernel), List.mem_of_getElem? (i := 518) (by decide +kernel)⟩
theorem lw_p20 : lw_okq (⟨"CourtWash", "isLine", "(I)Z"⟩, 15) := ⟨⟨by decide +kernel, by decide +kernel⟩, List.mem_of_getElem? (i := 23) (by decide +kernel), List.mem_of_getElem? (i := 521) (by decide +kernel), List.mem_of_getElem? (i := 522) (by decide +kernel)⟩
theorem lw_p21 : lw_okq (⟨"CourtWash$Wash", "isOfOthers", "(II)Z"⟩, 7) := ⟨⟨by decide +kernel, by decide +kernel⟩, List.mem_of_getElem? (i := 175) (by decide +kernel), List.mem_of_getElem? (i := 533) (by decide +kernel), List.mem_of_getElem? (i := 534) (by decide +kernel)⟩
theorem lw_p22 : lw_okq (⟨"CourtWash$Wash", "hasRoomFor", "(II)Z"⟩, 7) := ⟨⟨by decide +kernel, by decide +kernel⟩, List.mem_of_getElem? (i := 175) (by decide +kernel), List.mem_of_getElem? (i := 550) (by decide +kernel), List.mem_of_getElem? (i := 551) (by decide +kernel)⟩
theorem lw_p23 : lw_okq (⟨"CourtWash", "noCourt", "()Z"⟩, 15) := ⟨⟨by decide +kernel, by decide +kernel⟩, List.mem_of_getElem? (i := 23) (by decide +kernel), List.mem_of_getElem? (i := 577) (by decide +kernel), List.mem_of_getElem? (i := 578) (by decide +kernel)⟩
theorem lw_p24 : lw_okq (⟨"CourtWash$Wash", "gatherDrips", "()V"⟩, 7) := ⟨⟨by decide +kernel, by decide +kernel⟩, List.mem_of_getElem? (i := 175) (by decide +kernel), List.mem_of_getElem? (i := 601) (by decide +kernel), List.mem_of_getElem? (i := 602) (by decide +kernel)⟩
theorem lw_p25 : lw_okq (⟨"CourtWash$Wash", "takeDrips", "()V"⟩, 7) := ⟨⟨by decide +kernel, by decide +kernel⟩, List.mem_of_getElem? (i := 175) (by decide +kernel), List.mem_of_getElem? (i := 605) (by decide +kernel), List.mem_of_getElem? (i := 606) (by decide +kernel)⟩
theorem lw_p26 : lw_okq (⟨"CourtWash", "draftLaid", "(II)I"⟩, 15) := ⟨⟨by decide +kernel, by decide +kernel⟩, List.mem_of_getElem? (i := 23) (by decide +kernel), List.mem_of_getElem? (i := 626) (by decide +kernel), List.mem_of_getElem? (i := 627) (by decide +kernel)⟩
theorem lw_p27 : lw_okq (⟨"CourtWash", "findPlan", "(I)V"⟩, 15) := ⟨⟨by decide +kernel, by decide +kernel⟩, List.mem_of_getElem? (i := 23) (by decide +kernel), List.mem_of_getElem? (i := 677) (by decide +kernel), List.mem_of_getElem? (i := 678) (by decide +kernel)⟩
theorem lw_p28 : lw_okq (⟨"CourtWash", "leastTimeAlone", "(I)I"⟩, 15) := ⟨⟨by decide +kernel, by decide +kernel⟩, List.mem_of_getElem? (i := 23) (by decide +kernel), List.mem_of_getElem? (i := 681) (by decide +kernel), List.mem_of_getElem? (i := 682) (by decide +kernel)⟩
theorem lw_p29 : lw_okq (⟨"CourtWash", "timeUntilDry", "(III)I"⟩, 15) := ⟨⟨by decide +kernel, by decide +kernel⟩, List.mem_of_getElem? (i := 23) (by decide +kernel), List.mem_of_getElem? (i := 685) (by decide +kernel), List.mem_of_getElem? (i := 686) (by decide +kernel)⟩
theorem lw_p30 : lw_okq (⟨"CourtWash", "planPiece", "(II)V"⟩, 15) := ⟨⟨by decide +kernel, by decide +kernel⟩, List.mem_of_getElem? (i := 23) (by decide +kernel), List.mem_of_getElem? (i := 699) (by decide +kernel), List.mem_of_getElem? (i := 700) (by decide +kernel)⟩
theorem lw_p31 : lw_okq (⟨"CourtWash", "hangsAbove", "(III)Z"⟩, 15) := ⟨⟨by decide +kernel, by decide +kernel⟩, List.mem_of_getElem? (i := 23) (by decide +kernel), List.mem_of_getElem? (i := 708) (by decide +kernel), List.mem_of_getElem? (i := 709) (by decide +kernel)⟩
def lw_privs_2 : List (MethodName × Nat) := [(⟨"CourtWash$Reader", "readPiece", "(LCourtWash$Court;)V"⟩, 7), (⟨"CourtWash$Reader", "readKind", "()I"⟩, 7), (⟨"CourtWash$Court", "nextBelow", "(I)I"⟩, 16), (⟨"CourtWash", "isPiece", "(I)Z"⟩, 15), (⟨"CourtWash", "isLine", "(I)Z"⟩, 15), (⟨"CourtWash$Wash", "isOfOthers", "(II)Z"⟩, 7), (⟨"CourtWash$Wash", "hasRoomFor", "(II)Z"⟩, 7), (⟨"CourtWash", "noCourt", "()Z"⟩, 15), (⟨"CourtWash$Wash", "gatherDrips", "()V"⟩, 7), (⟨"CourtWash$Wash", "takeDrips", "()V"⟩, 7), (⟨"CourtWash", "draftLaid", "(II)I"⟩, 15), (⟨"CourtWash", "findPlan", "(I)V"⟩, 15), (⟨"CourtWash", "leastTimeAlone", "(I)I"⟩, 15), (⟨"CourtWash", "timeUntilDry", "(III)I"⟩, 15), (⟨"CourtWash", "planPiece", "(II)V"⟩, 15), (⟨"CourtWash", "hangsAbove", "(III)Z"⟩, 15)]
theorem lw_r2 : ∀ q ∈ lw_privs_2, lw_okq q := List.forall_mem_cons.mpr ⟨lw_p16, List.forall_mem_cons.mpr ⟨lw_p17, List.forall_mem_cons.mpr ⟨lw_p18, List.forall_mem_cons.mpr ⟨lw_p19, List.forall_mem_cons.mpr ⟨lw_p20, List.forall_mem_cons.mpr ⟨lw_p21, List.forall_mem_cons.mpr ⟨lw_p22, List.forall_mem_cons.mpr ⟨lw_p23, List.forall_mem_cons.mpr ⟨lw_p24, List.forall_mem_cons.mpr ⟨lw_p25, List.forall_mem_cons.mpr ⟨lw_p26, List.forall_mem_cons.mpr ⟨lw_p27, List.forall_mem_cons.mpr ⟨lw_p28, List.forall_mem_cons.mpr ⟨lw_p29, List.forall_mem_cons.mpr ⟨lw_p30, List.forall_mem_cons.mpr ⟨lw_p31, fun _ h => absurd h List.not_mem_nil⟩⟩⟩⟩⟩⟩⟩⟩⟩⟩⟩⟩⟩⟩⟩⟩
theorem lw_p32 : lw_okq (⟨"CourtWash", "linesByRings", "([I)[I"⟩, 15) := ⟨⟨by decide +kernel, by decide +kernel⟩, List.mem_of_getElem? (i := 23) (by decide +kernel), List.mem_of_getElem? (i := 750) (by decide +kernel), List.mem_of_getElem? (i := 751) (by decide +kernel)⟩
theorem lw_p33 : lw_okq (⟨"CourtWash", "likedMost", "(I[I[I)I"⟩, 15) := ⟨⟨by decide +kernel, by decide +kernel⟩, List.mem_of_getElem? (i := 23) (by decide +kernel), List.mem_of_getElem? (i := 755) (by decide +kernel), List.mem_of_getElem? (i := 756) (by decide +kernel)⟩
theorem lw_p34 : lw_okq (⟨"CourtWash", "likesMore", "(III)Z"⟩, 15) := ⟨⟨by decide +kernel, by decide +kernel⟩, List.mem_of_getElem? (i := 23) (by decide +kernel), List.mem_of_getElem? (i := 759) (by decide +kernel), List.mem_of_getElem? (i := 760) (by decide +kernel)⟩
theorem lw_p35 : lw_okq (⟨"CourtWash", "isInRing", "(I[I)Z"⟩, 15) := ⟨⟨by decide +kernel, by decide +kernel⟩, List.mem_of_getElem? (i := 23) (by decide +kernel), List.mem_of_getElem? (i := 763) (by decide +kernel), List.mem_of_getElem? (i := 764) (by decide +kernel)⟩
theorem lw_p36 : lw_okq (⟨"CourtWash", "yardsWet", "(I)I"⟩, 15) := ⟨⟨by decide +kernel, by decide +kernel⟩, List.mem_of_getElem? (i := 23) (by decide +kernel), List.mem_of_getElem? (i := 771) (by decide +kernel), List.mem_of_getElem? (i := 772) (by decide +kernel)⟩
theorem lw_p37 : lw_okq (⟨"CourtWash", "takenNext", "(I)I"⟩, 15) := ⟨⟨by decide +kernel, by decide +kernel⟩, List.mem_of_getElem? (i := 23) (by decide +kernel), List.mem_of_getElem? (i := 776) (by decide +kernel), List.mem_of_getElem? (i := 777) (by decide +kernel)⟩
theorem lw_p38 : lw_okq (⟨"CourtWash", "imageOf", "(I)LCourtWash$Wash;"⟩, 15) := ⟨⟨by decide +kernel, by decide +kernel⟩, List.mem_of_getElem? (i := 23) (by decide +kernel), List.mem_of_getElem? (i := 784) (by decide +kernel), List.mem_of_getElem? (i := 785) (by decide +kernel)⟩
theorem lw_p39 : lw_okq (⟨"CourtWash", "pieceAsked", "(I)LCourtWash$Piece;"⟩, 15) := ⟨⟨by decide +kernel, by decide +kernel⟩, List.mem_of_getElem? (i := 23) (by decide +kernel), List.mem_of_getElem? (i := 800) (by decide +kernel), List.mem_of_getElem? (i := 801) (by decide +kernel)⟩
theorem lw_p40 : lw_okq (⟨"CourtWashModel", "finding", "(I)I"⟩, 28) := ⟨⟨by decide +kernel, by decide +kernel⟩, List.mem_of_getElem? (i := 972) (by decide +kernel), List.mem_of_getElem? (i := 1076) (by decide +kernel), List.mem_of_getElem? (i := 1077) (by decide +kernel)⟩
theorem lw_p41 : lw_okq (⟨"CourtWashModel", "begin", "()V"⟩, 28) := ⟨⟨by decide +kernel, by decide +kernel⟩, List.mem_of_getElem? (i := 972) (by decide +kernel), List.mem_of_getElem? (i := 1104) (by decide +kernel), List.mem_of_getElem? (i := 1105) (by decide +kernel)⟩
theorem lw_p42 : lw_okq (⟨"CourtWashModel", "next", "()V"⟩, 28) := ⟨⟨by decide +kernel, by decide +kernel⟩, List.mem_of_getElem? (i := 972) (by decide +kernel), List.mem_of_getElem? (i := 1108) (by decide +kernel), List.mem_of_getElem? (i := 1109) (by decide +kernel)⟩
theorem lw_p43 : lw_okq (⟨"CourtWashModel", "byteAt", "(I)I"⟩, 28) := ⟨⟨by decide +kernel, by decide +kernel⟩, List.mem_of_getElem? (i := 972) (by decide +kernel), List.mem_of_getElem? (i := 1112) (by decide +kernel), List.mem_of_getElem? (i := 1113) (by decide +kernel)⟩
theorem lw_p44 : lw_okq (⟨"CourtWashModel", "readDay", "()V"⟩, 28) := ⟨⟨by decide +kernel, by decide +kernel⟩, List.mem_of_getElem? (i := 972) (by decide +kernel), List.mem_of_getElem? (i := 1123) (by decide +kernel), List.mem_of_getElem? (i := 1124) (by decide +kernel)⟩
theorem lw_p45 : lw_okq (⟨"CourtWashModel", "name", "()J"⟩, 28) := ⟨⟨by decide +kernel, by decide +kernel⟩, List.mem_of_getElem? (i := 972) (by decide +kernel), List.mem_of_getElem? (i := 1127) (by decide +kernel), List.mem_of_getElem? (i := 1128) (by decide +kernel)⟩
theorem lw_p46 : lw_okq (⟨"CourtWashModel", "must", "(Z)V"⟩, 28) := ⟨⟨by decide +kernel, by decide +kernel⟩, List.mem_of_getElem? (i := 972) (by decide +kernel), List.mem_of_getElem? (i := 1132) (by decide +kernel), List.mem_of_getElem? (i := 1133) (by decide +kernel)⟩
theorem lw_p47 : lw_okq (⟨"CourtWashModel", "bad", "(I)V"⟩, 28) := ⟨⟨by decide +kernel, by decide +kernel⟩, List.mem_of_getElem? (i := 972) (by decide +kernel), List.mem_of_getElem? (i := 1136) (by decide +kernel), List.mem_of_getElem? (i := 1137) (by decide +kernel)⟩
def lw_privs_3 : List (MethodName × Nat) := [(⟨"CourtWash", "linesByRings", "([I)[I"⟩, 15), (⟨"CourtWash", "likedMost", "(I[I[I)I"⟩, 15), (⟨"CourtWash", "likesMore", "(III)Z"⟩, 15), (⟨"CourtWash", "isInRing", "(I[I)Z"⟩, 15), (⟨"CourtWash", "yardsWet", "(I)I"⟩, 15), (⟨"CourtWash", "takenNext", "(I)I"⟩, 15), (⟨"CourtWash", "imageOf", "(I)LCourtWash$Wash;"⟩, 15), (⟨"CourtWash", "pieceAsked", "(I)LCourtWash$Piece;"⟩, 15), (⟨"CourtWashModel", "finding", "(I)I"⟩, 28), (⟨"CourtWashModel", "begin", "()V"⟩, 28), (⟨"CourtWashModel", "next", "()V"⟩, 28), (⟨"CourtWashModel", "byteAt", "(I)I"⟩, 28), (⟨"CourtWashModel", "readDay", "()V"⟩, 28), (⟨"CourtWashModel", "name", "()J"⟩, 28), (⟨"CourtWashModel", "must", "(Z)V"⟩, 28), (⟨"CourtWashModel", "bad", "(I)V"⟩, 28)]
theorem lw_r3 : ∀ q ∈ lw_privs_3, lw_okq q := List.forall_mem_cons.mpr ⟨lw_p32, List.forall_mem_cons.mpr ⟨lw_p33, List.forall_mem_cons.mpr ⟨lw_p34, List.forall_mem_cons.mpr ⟨lw_p35, List.forall_mem_cons.mpr ⟨lw_p36, List.forall_mem_cons.mpr ⟨lw_p37, List.forall_mem_cons.mpr ⟨lw_p38, List.forall_mem_cons.mpr ⟨lw_p39, List.forall_mem_cons.mpr ⟨lw_p40, List.forall_mem_cons.mpr ⟨lw_p41, List.forall_mem_cons.mpr ⟨lw_p42, List.forall_mem_cons.mpr ⟨lw_p43, List.forall_mem_cons.mpr ⟨lw_p44, List.forall_mem_cons.mpr ⟨lw_p45, List.forall_mem_cons.mpr ⟨lw_p46, List.forall_mem_cons.mpr ⟨lw_p47, fun _ h => absurd h List.not_mem_nil⟩⟩⟩⟩⟩⟩⟩⟩⟩⟩⟩⟩⟩⟩⟩⟩
theorem lw_p48 : lw_okq (⟨"CourtWashModel", "number", "(II)I"⟩, 28) := ⟨⟨by decide +kernel, by decide +kernel⟩, List.mem_of_getElem? (i := 972) (by decide +kernel), List.mem_of_getElem? (i := 1140) (by decide +kernel), List.mem_of_getElem? (i := 1141) (by decide +kernel)⟩
theorem lw_p49 : lw_okq (⟨"CourtWashModel", "figures", "()I"⟩, 28) := ⟨⟨by decide +kernel, by decide +kernel⟩, List.mem_of_getElem? (i := 972) (by decide +kernel), List.mem_of_getElem? (i := 1144) (by decide +kernel), List.mem_of_getElem? (i := 1145) (by decide +kernel)⟩
theorem lw_p50 : lw_okq (⟨"CourtWashModel", "mustEnd", "()V"⟩, 28) := ⟨⟨by decide +kernel, by decide +kernel⟩, List.mem_of_getElem? (i := 972) (by decide +kernel), List.mem_of_getElem? (i := 1148) (by decide +kernel), List.mem_of_getElem? (i := 1149) (by decide +kernel)⟩
theorem lw_p51 : lw_okq (⟨"CourtWashModel", "readLine", "()V"⟩, 28) := ⟨⟨by decide +kernel, by decide +kernel⟩, List.mem_of_getElem? (i := 972) (by decide +kernel), List.mem_of_getElem? (i := 1153) (by decide +kernel), List.mem_of_getElem? (i := 1154) (by decide +kernel)⟩
theorem lw_p52 : lw_okq (⟨"CourtWashModel", "begins", "(II)V"⟩, 28) := ⟨⟨by decide +kernel, by decide +kernel⟩, List.mem_of_getElem? (i := 972) (by decide +kernel), List.mem_of_getElem? (i := 1157) (by decide +kernel), List.mem_of_getElem? (i := 1158) (by decide +kernel)⟩
theorem lw_p53 : lw_okq (⟨"CourtWashModel", "isTold", "(II)Z"⟩, 28) := ⟨⟨by decide +kernel, by decide +kernel⟩, List.mem_of_getElem? (i := 972) (by decide +kernel), List.mem_of_getElem? (i := 1161) (by decide +kernel), List.mem_of_getElem? (i := 1162) (by decide +kernel)⟩
theorem lw_p54 : lw_okq (⟨"CourtWashModel", "readRight", "()V"⟩, 28) := ⟨⟨by decide +kernel, by decide +kernel⟩, List.mem_of_getElem? (i := 972) (by decide +kernel), List.mem_of_getElem? (i := 1166) (by decide +kernel), List.mem_of_getElem? (i := 1167) (by decide +kernel)⟩
theorem lw_p55 : lw_okq (⟨"CourtWashModel", "readPiece", "()V"⟩, 28) := ⟨⟨by decide +kernel, by decide +kernel⟩, List.mem_of_getElem? (i := 972) (by decide +kernel), List.mem_of_getElem? (i := 1171) (by decide +kernel), List.mem_of_getElem? (i := 1172) (by decide +kernel)⟩
theorem lw_p56 : lw_okq (⟨"CourtWashModel", "isPiece", "(I)Z"⟩, 28) := ⟨⟨by decide +kernel, by decide +kernel⟩, List.mem_of_getElem? (i := 972) (by decide +kernel), List.mem_of_getElem? (i := 1192) (by decide +kernel), List.mem_of_getElem? (i := 1193) (by decide +kernel)⟩
theorem lw_p57 : lw_okq (⟨"CourtWashModel", "isLine", "(I)Z"⟩, 28) := ⟨⟨by decide +kernel, by decide +kernel⟩, List.mem_of_getElem? (i := 972) (by decide +kernel), List.mem_of_getElem? (i := 1196) (by decide +kernel), List.mem_of_getElem? (i := 1197) (by decide +kernel)⟩
theorem lw_p58 : lw_okq (⟨"CourtWashModel", "layNow", "()V"⟩, 28) := ⟨⟨by decide +kernel, by decide +kernel⟩, List.mem_of_getElem? (i := 972) (by decide +kernel), List.mem_of_getElem? (i := 1200) (by decide +kernel), List.mem_of_getElem? (i := 1201) (by decide +kernel)⟩
theorem lw_p59 : lw_okq (⟨"CourtWashModel", "of", "(II)I"⟩, 28) := ⟨⟨by decide +kernel, by decide +kernel⟩, List.mem_of_getElem? (i := 972) (by decide +kernel), List.mem_of_getElem? (i := 1204) (by decide +kernel), List.mem_of_getElem? (i := 1205) (by decide +kernel)⟩
theorem lw_p60 : lw_okq (⟨"CourtWashModel", "comes", "(II)I"⟩, 28) := ⟨⟨by decide +kernel, by decide +kernel⟩, List.mem_of_getElem? (i := 972) (by decide +kernel), List.mem_of_getElem? (i := 1208) (by decide +kernel), List.mem_of_getElem? (i := 1209) (by decide +kernel)⟩
theorem lw_p61 : lw_okq (⟨"CourtWashModel", "rightsTo", "(I)I"⟩, 28) := ⟨⟨by decide +kernel, by decide +kernel⟩, List.mem_of_getElem? (i := 972) (by decide +kernel), List.mem_of_getElem? (i := 1212) (by decide +kernel), List.mem_of_getElem? (i := 1213) (by decide +kernel)⟩
theorem lw_p62 : lw_okq (⟨"CourtWashModel", "yardsOn", "(I)I"⟩, 28) := ⟨⟨by decide +kernel, by decide +kernel⟩, List.mem_of_getElem? (i := 972) (by decide +kernel), List.mem_of_getElem? (i := 1217) (by decide +kernel), List.mem_of_getElem? (i := 1218) (by decide +kernel)⟩
theorem lw_p63 : lw_okq (⟨"CourtWashModel", "hasSheet", "(I)Z"⟩, 28) := ⟨⟨by decide +kernel, by decide +kernel⟩, List.mem_of_getElem? (i := 972) (by decide +kernel), List.mem_of_getElem? (i := 1221) (by decide +kernel), List.mem_of_getElem? (i := 1222) (by decide +kernel)⟩
def lw_privs_4 : List (MethodName × Nat) := [(⟨"CourtWashModel", "number", "(II)I"⟩, 28), (⟨"CourtWashModel", "figures", "()I"⟩, 28), (⟨"CourtWashModel", "mustEnd", "()V"⟩, 28), (⟨"CourtWashModel", "readLine", "()V"⟩, 28), (⟨"CourtWashModel", "begins", "(II)V"⟩, 28), (⟨"CourtWashModel", "isTold", "(II)Z"⟩, 28), (⟨"CourtWashModel", "readRight", "()V"⟩, 28), (⟨"CourtWashModel", "readPiece", "()V"⟩, 28), (⟨"CourtWashModel", "isPiece", "(I)Z"⟩, 28), (⟨"CourtWashModel", "isLine", "(I)Z"⟩, 28), (⟨"CourtWashModel", "layNow", "()V"⟩, 28), (⟨"CourtWashModel", "of", "(II)I"⟩, 28), (⟨"CourtWashModel", "comes", "(II)I"⟩, 28), (⟨"CourtWashModel", "rightsTo", "(I)I"⟩, 28), (⟨"CourtWashModel", "yardsOn", "(I)I"⟩, 28), (⟨"CourtWashModel", "hasSheet", "(I)Z"⟩, 28)]
theorem lw_r4 : ∀ q ∈ lw_privs_4, lw_okq q := List.forall_mem_cons.mpr ⟨lw_p48, List.forall_mem_cons.mpr ⟨lw_p49, List.forall_mem_cons.mpr ⟨lw_p50, List.forall_mem_cons.mpr ⟨lw_p51, List.forall_mem_cons.mpr ⟨lw_p52, List.forall_mem_cons.mpr ⟨lw_p53, List.forall_mem_cons.mpr ⟨lw_p54, List.forall_mem_cons.mpr ⟨lw_p55, List.forall_mem_cons.mpr ⟨lw_p56, List.forall_mem_cons.mpr ⟨lw_p57, List.forall_mem_cons.mpr ⟨lw_p58, List.forall_mem_cons.mpr ⟨lw_p59, List.forall_mem_cons.mpr ⟨lw_p60, List.forall_mem_cons.mpr ⟨lw_p61, List.forall_mem_cons.mpr ⟨lw_p62, List.forall_mem_cons.mpr ⟨lw_p63, fun _ h => absurd h List.not_mem_nil⟩⟩⟩⟩⟩⟩⟩⟩⟩⟩⟩⟩⟩⟩⟩⟩
theorem lw_p64 : lw_okq (⟨"CourtWashModel", "keepNow", "()V"⟩, 28) := ⟨⟨by decide +kernel, by decide +kernel⟩, List.mem_of_getElem? (i := 972) (by decide +kernel), List.mem_of_getElem? (i := 1225) (by decide +kernel), List.mem_of_getElem? (i := 1226) (by decide +kernel)⟩
theorem lw_p65 : lw_okq (⟨"CourtWashModel", "goOn", "(I)V"⟩, 28) := ⟨⟨by decide +kernel, by decide +kernel⟩, List.mem_of_getElem? (i := 972) (by decide +kernel), List.mem_of_getElem? (i := 1238) (by decide +kernel), List.mem_of_getElem? (i := 1239) (by decide +kernel)⟩
theorem lw_p66 : lw_okq (⟨"CourtWashModel", "dries", "(II)V"⟩, 28) := ⟨⟨by decide +kernel, by decide +kernel⟩, List.mem_of_getElem? (i := 972) (by decide +kernel), List.mem_of_getElem? (i := 1242) (by decide +kernel), List.mem_of_getElem? (i := 1243) (by decide +kernel)⟩
theorem lw_p67 : lw_okq (⟨"CourtWashModel", "hasSun", "(III)Z"⟩, 28) := ⟨⟨by decide +kernel, by decide +kernel⟩, List.mem_of_getElem? (i := 972) (by decide +kernel), List.mem_of_getElem? (i := 1246) (by decide +kernel), List.mem_of_getElem? (i := 1247) (by decide +kernel)⟩
theorem lw_p68 : lw_okq (⟨"CourtWashModel", "floor", "(I)I"⟩, 28) := ⟨⟨by decide +kernel, by decide +kernel⟩, List.mem_of_getElem? (i := 972) (by decide +kernel), List.mem_of_getElem? (i := 1250) (by decide +kernel), List.mem_of_getElem? (i := 1251) (by decide +kernel)⟩
theorem lw_p69 : lw_okq (⟨"CourtWashModel", "below", "(I)I"⟩, 28) := ⟨⟨by decide +kernel, by decide +kernel⟩, List.mem_of_getElem? (i := 972) (by decide +kernel), List.mem_of_getElem? (i := 1254) (by decide +kernel), List.mem_of_getElem? (i := 1255) (by decide +kernel)⟩
theorem lw_p70 : lw_okq (⟨"CourtWashModel", "isReddish", "(I)Z"⟩, 28) := ⟨⟨by decide +kernel, by decide +kernel⟩, List.mem_of_getElem? (i := 972) (by decide +kernel), List.mem_of_getElem? (i := 1258) (by decide +kernel), List.mem_of_getElem? (i := 1259) (by decide +kernel)⟩
theorem lw_p71 : lw_okq (⟨"CourtWashModel", "hangOn", "(I)I"⟩, 28) := ⟨⟨by decide +kernel, by decide +kernel⟩, List.mem_of_getElem? (i := 972) (by decide +kernel), List.mem_of_getElem? (i := 1277) (by decide +kernel), List.mem_of_getElem? (i := 1278) (by decide +kernel)⟩
theorem lw_p72 : lw_okq (⟨"CourtWashModel", "areDry", "(I)Z"⟩, 28) := ⟨⟨by decide +kernel, by decide +kernel⟩, List.mem_of_getElem? (i := 972) (by decide +kernel), List.mem_of_getElem? (i := 1285) (by decide +kernel), List.mem_of_getElem? (i := 1286) (by decide +kernel)⟩
theorem lw_p73 : lw_okq (⟨"CourtWashModel", "dryBy", "(II)I"⟩, 28) := ⟨⟨by decide +kernel, by decide +kernel⟩, List.mem_of_getElem? (i := 972) (by decide +kernel), List.mem_of_getElem? (i := 1293) (by decide +kernel), List.mem_of_getElem? (i := 1294) (by decide +kernel)⟩
theorem lw_p74 : lw_okq (⟨"CourtWashModel", "sunsOf", "(IIII)I"⟩, 28) := ⟨⟨by decide +kernel, by decide +kernel⟩, List.mem_of_getElem? (i := 972) (by decide +kernel), List.mem_of_getElem? (i := 1307) (by decide +kernel), List.mem_of_getElem? (i := 1308) (by decide +kernel)⟩
theorem lw_p75 : lw_okq (⟨"CourtWashModel", "turn", "(I)Z"⟩, 28) := ⟨⟨by decide +kernel, by decide +kernel⟩, List.mem_of_getElem? (i := 972) (by decide +kernel), List.mem_of_getElem? (i := 1316) (by decide +kernel), List.mem_of_getElem? (i := 1317) (by decide +kernel)⟩
theorem lw_p76 : lw_okq (⟨"CourtWashModel", "point", "(II)V"⟩, 28) := ⟨⟨by decide +kernel, by decide +kernel⟩, List.mem_of_getElem? (i := 972) (by decide +kernel), List.mem_of_getElem? (i := 1320) (by decide +kernel), List.mem_of_getElem? (i := 1321) (by decide +kernel)⟩
theorem lw_p77 : lw_okq (⟨"CourtWashModel", "isInRing", "(II)Z"⟩, 28) := ⟨⟨by decide +kernel, by decide +kernel⟩, List.mem_of_getElem? (i := 972) (by decide +kernel), List.mem_of_getElem? (i := 1324) (by decide +kernel), List.mem_of_getElem? (i := 1325) (by decide +kernel)⟩
theorem lw_p78 : lw_okq (⟨"CourtWashModel", "nextIn", "(I)I"⟩, 28) := ⟨⟨by decide +kernel, by decide +kernel⟩, List.mem_of_getElem? (i := 972) (by decide +kernel), List.mem_of_getElem? (i := 1333) (by decide +kernel), List.mem_of_getElem? (i := 1334) (by decide +kernel)⟩
theorem lw_p79 : lw_okq (⟨"CourtWashModel", "sizeOf", "(I)I"⟩, 28) := ⟨⟨by decide +kernel, by decide +kernel⟩, List.mem_of_getElem? (i := 972) (by decide +kernel), List.mem_of_getElem? (i := 1361) (by decide +kernel), List.mem_of_getElem? (i := 1362) (by decide +kernel)⟩
def lw_privs_5 : List (MethodName × Nat) := [(⟨"CourtWashModel", "keepNow", "()V"⟩, 28), (⟨"CourtWashModel", "goOn", "(I)V"⟩, 28), (⟨"CourtWashModel", "dries", "(II)V"⟩, 28), (⟨"CourtWashModel", "hasSun", "(III)Z"⟩, 28), (⟨"CourtWashModel", "floor", "(I)I"⟩, 28), (⟨"CourtWashModel", "below", "(I)I"⟩, 28), (⟨"CourtWashModel", "isReddish", "(I)Z"⟩, 28), (⟨"CourtWashModel", "hangOn", "(I)I"⟩, 28), (⟨"CourtWashModel", "areDry", "(I)Z"⟩, 28), (⟨"CourtWashModel", "dryBy", "(II)I"⟩, 28), (⟨"CourtWashModel", "sunsOf", "(IIII)I"⟩, 28), (⟨"CourtWashModel", "turn", "(I)Z"⟩, 28), (⟨"CourtWashModel", "point", "(II)V"⟩, 28), (⟨"CourtWashModel", "isInRing", "(II)Z"⟩, 28), (⟨"CourtWashModel", "nextIn", "(I)I"⟩, 28), (⟨"CourtWashModel", "sizeOf", "(I)I"⟩, 28)]
theorem lw_r5 : ∀ q ∈ lw_privs_5, lw_okq q := List.forall_mem_cons.mpr ⟨lw_p64, List.forall_mem_cons.mpr ⟨lw_p65, List.forall_mem_cons.mpr ⟨lw_p66, List.forall_mem_cons.mpr ⟨lw_p67, List.forall_mem_cons.mpr ⟨lw_p68, List.forall_mem_cons.mpr ⟨lw_p69, List.forall_mem_cons.mpr ⟨lw_p70, List.forall_mem_cons.mpr ⟨lw_p71, List.forall_mem_cons.mpr ⟨lw_p72, List.forall_mem_cons.mpr ⟨lw_p73, List.forall_mem_cons.mpr ⟨lw_p74, List.forall_mem_cons.mpr ⟨lw_p75, List.forall_mem_cons.mpr ⟨lw_p76, List.forall_mem_cons.mpr ⟨lw_p77, List.forall_mem_cons.mpr ⟨lw_p78, List.forall_mem_cons.mpr ⟨lw_p79, fun _ h => absurd h List.not_mem_nil⟩⟩⟩⟩⟩⟩⟩⟩⟩⟩⟩⟩⟩⟩⟩⟩
theorem lw_p80 : lw_okq (⟨"CourtWashModel", "plainSize", "(I)I"⟩, 28) := ⟨⟨by decide +kernel, by decide +kernel⟩, List.mem_of_getElem? (i := 972) (by decide +kernel), List.mem_of_getElem? (i := 1365) (by decide +kernel), List.mem_of_getElem? (i := 1366) (by decide +kernel)⟩
theorem lw_p81 : lw_okq (⟨"CourtWashModel", "began", "(I)V"⟩, 28) := ⟨⟨by decide +kernel, by decide +kernel⟩, List.mem_of_getElem? (i := 972) (by decide +kernel), List.mem_of_getElem? (i := 1369) (by decide +kernel), List.mem_of_getElem? (i := 1370) (by decide +kernel)⟩
theorem lw_p82 : lw_okq (⟨"CourtWashModel", "redMark", "(I)I"⟩, 28) := ⟨⟨by decide +kernel, by decide +kernel⟩, List.mem_of_getElem? (i := 972) (by decide +kernel), List.mem_of_getElem? (i := 1373) (by decide +kernel), List.mem_of_getElem? (i := 1374) (by decide +kernel)⟩
theorem lw_p83 : lw_okq (⟨"CourtWashModel", "markOf", "(I)I"⟩, 28) := ⟨⟨by decide +kernel, by decide +kernel⟩, List.mem_of_getElem? (i := 972) (by decide +kernel), List.mem_of_getElem? (i := 1377) (by decide +kernel), List.mem_of_getElem? (i := 1378) (by decide +kernel)⟩
def lw_privs_6 : List (MethodName × Nat) := [(⟨"CourtWashModel", "plainSize", "(I)I"⟩, 28), (⟨"CourtWashModel", "began", "(I)V"⟩, 28), (⟨"CourtWashModel", "redMark", "(I)I"⟩, 28), (⟨"CourtWashModel", "markOf", "(I)I"⟩, 28)]
theorem lw_r6 : ∀ q ∈ lw_privs_6, lw_okq q := List.forall_mem_cons.mpr ⟨lw_p80, List.forall_mem_cons.mpr ⟨lw_p81, List.forall_mem_cons.mpr ⟨lw_p82, List.forall_mem_cons.mpr ⟨lw_p83, fun _ h => absurd h List.not_mem_nil⟩⟩⟩⟩
def lw_privs : List (MethodName × Nat) := lw_privs_1 ++ (lw_privs_2 ++ (lw_privs_3 ++ (lw_privs_4 ++ (lw_privs_5 ++ (lw_privs_6)))))
def lw_tbl : List Cond := k2_sels lw_privs ++ tables_1
theorem lw_privs_ok : ∀ q ∈ lw_privs, lw_okq q := by
  show ∀ q ∈ lw_privs_1 ++ (lw_privs_2 ++ (lw_privs_3 ++ (lw_privs_4 ++ (lw_privs_5 ++ (lw_privs_6))))), lw_okq q
  exact List.forall_mem_append.mpr ⟨lw_r1, List.forall_mem_append.mpr ⟨lw_r2, List.forall_mem_append.mpr ⟨lw_r3, List.forall_mem_append.mpr ⟨lw_r4, List.forall_mem_append.mpr ⟨lw_r5, lw_r6⟩⟩⟩⟩⟩
def RX0 : String := "CourtWash$Black"
def TX0 : u_T := fun k => match k with
  | 0 => ("CourtWash$Piece", "number", "I", true)
  | 1 => ("CourtWash$Piece", "wet", "I", true)
  | 2 => ("CourtWash$Piece", "yards", "I", true)
  | _ => ("CourtWash$Piece", "trace", "LCourtWash$Trace;", true)
def tyX0 : Nat → FieldType := fun k => match k with
  | 0 => .int
  | 1 => .int
  | 2 => .int
  | _ => .object "CourtWash$Trace"
theorem nmX0 : ∀ a, a < 4 → ∀ b, b < 4 → a ≠ b → (TX0 a).2.1 ≠ (TX0 b).2.1 := by decide +kernel
theorem tyX0_ok : ∀ k, k < 4 → parseFieldDescriptor (TX0 k).2.2.1 = some (tyX0 k) := by decide +kernel
abbrev cX0_init : ByteArray := prog_2_method_1_code
def yX0_init : MethodName := ⟨RX0, "<init>", "(IIILCourtWash$Trace;)V"⟩
abbrev cX0_size : ByteArray := prog_2_method_2_code
def yX0_size : MethodName := ⟨RX0, "size", "()I"⟩
abbrev cX0_mark : ByteArray := prog_2_method_3_code
def yX0_mark : MethodName := ⟨RX0, "mark", "()I"⟩
def RX1 : String := "CourtWash$Court"
def TX1 : u_T := fun k => match k with
  | 0 => ("CourtWash$Court", "day", "[I", true)
  | 1 => ("CourtWash$Court", "lineCount", "I", false)
  | 2 => ("CourtWash$Court", "floors", "[I", true)
  | 3 => ("CourtWash$Court", "columns", "[I", true)
  | 4 => ("CourtWash$Court", "wides", "[I", true)
  | 5 => ("CourtWash$Court", "below", "[I", true)
  | 6 => ("CourtWash$Court", "rightCount", "I", false)
  | 7 => ("CourtWash$Court", "rightLines", "[I", true)
  | 8 => ("CourtWash$Court", "rightFroms", "[I", true)
  | 9 => ("CourtWash$Court", "rightTos", "[I", true)
  | 10 => ("CourtWash$Court", "rightOwners", "[I", true)
  | 11 => ("CourtWash$Court", "pieceCount", "I", false)
  | 12 => ("CourtWash$Court", "kinds", "[I", true)
  | 13 => ("CourtWash$Court", "owners", "[I", true)
  | 14 => ("CourtWash$Court", "firstWet", "[I", true)
  | _ => ("CourtWash$Court", "yards", "[I", true)
def tyX1 : Nat → FieldType := fun k => match k with
  | 0 => .array .int
  | 1 => .int
  | 2 => .array .int
  | 3 => .array .int
  | 4 => .array .int
  | 5 => .array .int
  | 6 => .int
  | 7 => .array .int
  | 8 => .array .int
  | 9 => .array .int
  | 10 => .array .int
  | 11 => .int
  | 12 => .array .int
  | 13 => .array .int
  | 14 => .array .int
  | _ => .array .int
theorem nmX1 : ∀ a, a < 16 → ∀ b, b < 16 → a ≠ b → (TX1 a).2.1 ≠ (TX1 b).2.1 := by decide +kernel
theorem tyX1_ok : ∀ k, k < 16 → parseFieldDescriptor (TX1 k).2.2.1 = some (tyX1 k) := by decide +kernel
abbrev cX1_init : ByteArray := prog_3_method_1_code
def yX1_init : MethodName := ⟨RX1, "<init>", "()V"⟩
abbrev cX1_isTold : ByteArray := prog_3_method_2_code
def yX1_isTold : MethodName := ⟨RX1, "isTold", "()Z"⟩
abbrev cX1_addLine : ByteArray := prog_3_method_3_code
def yX1_addLine : MethodName := ⟨RX1, "addLine", "(III)V"⟩
abbrev cX1_addRight : ByteArray := prog_3_method_4_code
def yX1_addRight : MethodName := ⟨RX1, "addRight", "(IIII)V"⟩
abbrev cX1_addPiece : ByteArray := prog_3_method_5_code
def yX1_addPiece : MethodName := ⟨RX1, "addPiece", "(IIII)V"⟩
abbrev cX1_hasLineAt : ByteArray := prog_3_method_6_code
def yX1_hasLineAt : MethodName := ⟨RX1, "hasLineAt", "(II)Z"⟩
abbrev cX1_findLinesBelow : ByteArray := prog_3_method_7_code
def yX1_findLinesBelow : MethodName := ⟨RX1, "findLinesBelow", "()V"⟩
abbrev cX1_nextBelow : ByteArray := prog_3_method_8_code
def yX1_nextBelow : MethodName := ⟨RX1, "nextBelow", "(I)I"⟩
abbrev cX1_hasSun : ByteArray := prog_3_method_9_code
def yX1_hasSun : MethodName := ⟨RX1, "hasSun", "(III)Z"⟩
abbrev cX1_sunnyQuarters : ByteArray := prog_3_method_10_code
def yX1_sunnyQuarters : MethodName := ⟨RX1, "sunnyQuarters", "(IIII)I"⟩
abbrev cX1_drying : ByteArray := prog_3_method_11_code
def yX1_drying : MethodName := ⟨RX1, "drying", "(III)I"⟩
abbrev cX1_takesStains : ByteArray := prog_3_method_12_code
def yX1_takesStains : MethodName := ⟨RX1, "takesStains", "(I)Z"⟩
abbrev cX1_holders : ByteArray := prog_3_method_13_code
def yX1_holders : MethodName := ⟨RX1, "holders", "(II)I"⟩
def RX2 : String := "CourtWash$Piece"
def TX2 : u_T := fun k => match k with
  | _ => ("", "", "", false)
def tyX2 : Nat → FieldType := fun k => match k with
  | _ => .int
theorem nmX2 : ∀ a, a < 0 → ∀ b, b < 0 → a ≠ b → (TX2 a).2.1 ≠ (TX2 b).2.1 := by decide +kernel
theorem tyX2_ok : ∀ k, k < 0 → parseFieldDescriptor (TX2 k).2.2.1 = some (tyX2 k) := by decide +kernel
abbrev cX2_init : ByteArray := prog_4_method_1_code
def yX2_init : MethodName := ⟨RX2, "<init>", "(IIILCourtWash$Trace;)V"⟩
abbrev cX2_size : ByteArray := prog_4_method_2_code
def yX2_size : MethodName := ⟨RX2, "size", "()I"⟩
abbrev cX2_mark : ByteArray := prog_4_method_3_code
def yX2_mark : MethodName := ⟨RX2, "mark", "()I"⟩
def RX3 : String := "CourtWash$Reader"
def TX3 : u_T := fun k => match k with
  | 0 => ("CourtWash$Reader", "tape", "[B", true)
  | 1 => ("CourtWash$Reader", "length", "I", false)
  | 2 => ("CourtWash$Reader", "tokenSort", "I", false)
  | 3 => ("CourtWash$Reader", "tokenFrom", "I", false)
  | 4 => ("CourtWash$Reader", "tokenTo", "I", false)
  | 5 => ("CourtWash$Reader", "faultNumber", "I", false)
  | _ => ("CourtWash$Reader", "faultPlace", "I", false)
def tyX3 : Nat → FieldType := fun k => match k with
  | 0 => .array .byte
  | 1 => .int
  | 2 => .int
  | 3 => .int
  | 4 => .int
  | 5 => .int
  | _ => .int
theorem nmX3 : ∀ a, a < 7 → ∀ b, b < 7 → a ≠ b → (TX3 a).2.1 ≠ (TX3 b).2.1 := by decide +kernel
theorem tyX3_ok : ∀ k, k < 7 → parseFieldDescriptor (TX3 k).2.2.1 = some (tyX3 k) := by decide +kernel
abbrev cX3_init : ByteArray := prog_5_method_1_code
def yX3_init : MethodName := ⟨RX3, "<init>", "()V"⟩
abbrev cX3_hasRoom : ByteArray := prog_5_method_2_code
def yX3_hasRoom : MethodName := ⟨RX3, "hasRoom", "(I)Z"⟩
abbrev cX3_append : ByteArray := prog_5_method_3_code
def yX3_append : MethodName := ⟨RX3, "append", "(JI)I"⟩
abbrev cX3_readCourt : ByteArray := prog_5_method_4_code
def yX3_readCourt : MethodName := ⟨RX3, "readCourt", "()LCourtWash$Court;"⟩
abbrev cX3_readDay : ByteArray := prog_5_method_5_code
def yX3_readDay : MethodName := ⟨RX3, "readDay", "(LCourtWash$Court;)V"⟩
abbrev cX3_readLines : ByteArray := prog_5_method_6_code
def yX3_readLines : MethodName := ⟨RX3, "readLines", "(LCourtWash$Court;)V"⟩
abbrev cX3_readLine : ByteArray := prog_5_method_7_code
def yX3_readLine : MethodName := ⟨RX3, "readLine", "(LCourtWash$Court;)V"⟩
abbrev cX3_readRights : ByteArray := prog_5_method_8_code
def yX3_readRights : MethodName := ⟨RX3, "readRights", "(LCourtWash$Court;)V"⟩
abbrev cX3_readRight : ByteArray := prog_5_method_9_code
def yX3_readRight : MethodName := ⟨RX3, "readRight", "(LCourtWash$Court;)V"⟩
abbrev cX3_readPieces : ByteArray := prog_5_method_10_code
def yX3_readPieces : MethodName := ⟨RX3, "readPieces", "(LCourtWash$Court;)V"⟩
abbrev cX3_readPiece : ByteArray := prog_5_method_11_code
def yX3_readPiece : MethodName := ⟨RX3, "readPiece", "(LCourtWash$Court;)V"⟩
abbrev cX3_readKind : ByteArray := prog_5_method_12_code
def yX3_readKind : MethodName := ⟨RX3, "readKind", "()I"⟩
abbrev cX3_sortOf : ByteArray := prog_5_method_13_code
def yX3_sortOf : MethodName := ⟨RX3, "sortOf", "(I)Ljava/lang/String;"⟩
abbrev cX3_readWord : ByteArray := prog_5_method_14_code
def yX3_readWord : MethodName := ⟨RX3, "readWord", "(Ljava/lang/String;Z)V"⟩
abbrev cX3_readSign : ByteArray := prog_5_method_15_code
def yX3_readSign : MethodName := ⟨RX3, "readSign", "()V"⟩
abbrev cX3_readNumber : ByteArray := prog_5_method_16_code
def yX3_readNumber : MethodName := ⟨RX3, "readNumber", "(II)I"⟩
abbrev cX3_numberOfToken : ByteArray := prog_5_method_17_code
def yX3_numberOfToken : MethodName := ⟨RX3, "numberOfToken", "()I"⟩
abbrev cX3_failAt : ByteArray := prog_5_method_18_code
def yX3_failAt : MethodName := ⟨RX3, "failAt", "(II)V"⟩
abbrev cX3_isNext : ByteArray := prog_5_method_19_code
def yX3_isNext : MethodName := ⟨RX3, "isNext", "(Ljava/lang/String;)Z"⟩
abbrev cX3_nextToken : ByteArray := prog_5_method_20_code
def yX3_nextToken : MethodName := ⟨RX3, "nextToken", "()V"⟩
abbrev cX3_sortAt : ByteArray := prog_5_method_21_code
def yX3_sortAt : MethodName := ⟨RX3, "sortAt", "(I)I"⟩
def RX4 : String := "CourtWash$Red"
def TX4 : u_T := fun k => match k with
  | 0 => ("CourtWash$Piece", "number", "I", true)
  | 1 => ("CourtWash$Piece", "wet", "I", true)
  | 2 => ("CourtWash$Piece", "yards", "I", true)
  | _ => ("CourtWash$Piece", "trace", "LCourtWash$Trace;", true)
def tyX4 : Nat → FieldType := fun k => match k with
  | 0 => .int
  | 1 => .int
  | 2 => .int
  | _ => .object "CourtWash$Trace"
theorem nmX4 : ∀ a, a < 4 → ∀ b, b < 4 → a ≠ b → (TX4 a).2.1 ≠ (TX4 b).2.1 := by decide +kernel
theorem tyX4_ok : ∀ k, k < 4 → parseFieldDescriptor (TX4 k).2.2.1 = some (tyX4 k) := by decide +kernel
abbrev cX4_init : ByteArray := prog_6_method_1_code
def yX4_init : MethodName := ⟨RX4, "<init>", "(IIILCourtWash$Trace;)V"⟩
abbrev cX4_size : ByteArray := prog_6_method_2_code
def yX4_size : MethodName := ⟨RX4, "size", "()I"⟩
abbrev cX4_mark : ByteArray := prog_6_method_3_code
def yX4_mark : MethodName := ⟨RX4, "mark", "()I"⟩
def RX5 : String := "CourtWash$Rows"
def TX5 : u_T := fun k => match k with
  | 0 => ("CourtWash$Rows", "lanes", "[I", true)
  | 1 => ("CourtWash$Rows", "sizes", "[I", true)
  | _ => ("CourtWash$Rows", "items", "[I", true)
def tyX5 : Nat → FieldType := fun k => match k with
  | 0 => .array .int
  | 1 => .array .int
  | _ => .array .int
theorem nmX5 : ∀ a, a < 3 → ∀ b, b < 3 → a ≠ b → (TX5 a).2.1 ≠ (TX5 b).2.1 := by decide +kernel
theorem tyX5_ok : ∀ k, k < 3 → parseFieldDescriptor (TX5 k).2.2.1 = some (tyX5 k) := by decide +kernel
abbrev cX5_init : ByteArray := prog_7_method_1_code
def yX5_init : MethodName := ⟨RX5, "<init>", "()V"⟩
abbrev cX5_isRow : ByteArray := prog_7_method_2_code
def yX5_isRow : MethodName := ⟨RX5, "isRow", "(I)Z"⟩
abbrev cX5_isMissing : ByteArray := prog_7_method_3_code
def yX5_isMissing : MethodName := ⟨RX5, "isMissing", "(I)Z"⟩
abbrev cX5_areAlike : ByteArray := prog_7_method_4_code
def yX5_areAlike : MethodName := ⟨RX5, "areAlike", "(II)Z"⟩
abbrev cX5_hasItems : ByteArray := prog_7_method_5_code
def yX5_hasItems : MethodName := ⟨RX5, "hasItems", "(III)Z"⟩
abbrev cX5_make : ByteArray := prog_7_method_6_code
def yX5_make : MethodName := ⟨RX5, "make", "(III)V"⟩
abbrev cX5_lose : ByteArray := prog_7_method_7_code
def yX5_lose : MethodName := ⟨RX5, "lose", "(I)I"⟩
abbrev cX5_item : ByteArray := prog_7_method_8_code
def yX5_item : MethodName := ⟨RX5, "item", "(II)I"⟩
abbrev cX5_put : ByteArray := prog_7_method_9_code
def yX5_put : MethodName := ⟨RX5, "put", "(III)I"⟩
abbrev cX5_move : ByteArray := prog_7_method_10_code
def yX5_move : MethodName := ⟨RX5, "move", "(IIIII)V"⟩
abbrev cX5_areIn : ByteArray := prog_7_method_11_code
def yX5_areIn : MethodName := ⟨RX5, "areIn", "(IIIII)Z"⟩
abbrev cX5_areUnlike : ByteArray := prog_7_method_12_code
def yX5_areUnlike : MethodName := ⟨RX5, "areUnlike", "(II)Z"⟩
abbrev cX5_firstItems : ByteArray := prog_7_method_13_code
def yX5_firstItems : MethodName := ⟨RX5, "firstItems", "(II)[I"⟩
abbrev cX5_howMany : ByteArray := prog_7_method_14_code
def yX5_howMany : MethodName := ⟨RX5, "howMany", "()I"⟩
abbrev cX5_cutToLane : ByteArray := prog_7_method_15_code
def yX5_cutToLane : MethodName := ⟨RX5, "cutToLane", "(II)I"⟩
def RX6 : String := "CourtWash$Sheet"
def TX6 : u_T := fun k => match k with
  | 0 => ("CourtWash$Piece", "number", "I", true)
  | 1 => ("CourtWash$Piece", "wet", "I", true)
  | 2 => ("CourtWash$Piece", "yards", "I", true)
  | _ => ("CourtWash$Piece", "trace", "LCourtWash$Trace;", true)
def tyX6 : Nat → FieldType := fun k => match k with
  | 0 => .int
  | 1 => .int
  | 2 => .int
  | _ => .object "CourtWash$Trace"
theorem nmX6 : ∀ a, a < 4 → ∀ b, b < 4 → a ≠ b → (TX6 a).2.1 ≠ (TX6 b).2.1 := by decide +kernel
theorem tyX6_ok : ∀ k, k < 4 → parseFieldDescriptor (TX6 k).2.2.1 = some (tyX6 k) := by decide +kernel
abbrev cX6_init : ByteArray := prog_8_method_1_code
def yX6_init : MethodName := ⟨RX6, "<init>", "(IIILCourtWash$Trace;)V"⟩
abbrev cX6_mark : ByteArray := prog_8_method_2_code
def yX6_mark : MethodName := ⟨RX6, "mark", "()I"⟩
def RX7 : String := "CourtWash$Sock"
def TX7 : u_T := fun k => match k with
  | 0 => ("CourtWash$Piece", "number", "I", true)
  | 1 => ("CourtWash$Piece", "wet", "I", true)
  | 2 => ("CourtWash$Piece", "yards", "I", true)
  | _ => ("CourtWash$Piece", "trace", "LCourtWash$Trace;", true)
def tyX7 : Nat → FieldType := fun k => match k with
  | 0 => .int
  | 1 => .int
  | 2 => .int
  | _ => .object "CourtWash$Trace"
theorem nmX7 : ∀ a, a < 4 → ∀ b, b < 4 → a ≠ b → (TX7 a).2.1 ≠ (TX7 b).2.1 := by decide +kernel
theorem tyX7_ok : ∀ k, k < 4 → parseFieldDescriptor (TX7 k).2.2.1 = some (tyX7 k) := by decide +kernel
abbrev cX7_init : ByteArray := prog_9_method_1_code
def yX7_init : MethodName := ⟨RX7, "<init>", "(IIILCourtWash$Trace;)V"⟩
abbrev cX7_size : ByteArray := prog_9_method_2_code
def yX7_size : MethodName := ⟨RX7, "size", "()I"⟩
abbrev cX7_mark : ByteArray := prog_9_method_3_code
def yX7_mark : MethodName := ⟨RX7, "mark", "()I"⟩
def RX8 : String := "CourtWash$Trace"
def TX8 : u_T := fun k => match k with
  | 0 => ("CourtWash$Trace", "numbers", "[I", true)
  | _ => ("CourtWash$Trace", "length", "I", false)
def tyX8 : Nat → FieldType := fun k => match k with
  | 0 => .array .int
  | _ => .int
theorem nmX8 : ∀ a, a < 2 → ∀ b, b < 2 → a ≠ b → (TX8 a).2.1 ≠ (TX8 b).2.1 := by decide +kernel
theorem tyX8_ok : ∀ k, k < 2 → parseFieldDescriptor (TX8 k).2.2.1 = some (tyX8 k) := by decide +kernel
abbrev cX8_init : ByteArray := prog_10_method_1_code
def yX8_init : MethodName := ⟨RX8, "<init>", "()V"⟩
abbrev cX8_empty : ByteArray := prog_10_method_2_code
def yX8_empty : MethodName := ⟨RX8, "empty", "()V"⟩
abbrev cX8_begin : ByteArray := prog_10_method_3_code
def yX8_begin : MethodName := ⟨RX8, "begin", "(I)V"⟩
def RX9 : String := "CourtWash$Wash"
def TX9 : u_T := fun k => match k with
  | 0 => ("CourtWash$Wash", "court", "LCourtWash$Court;", false)
  | 1 => ("CourtWash$Wash", "gone", "I", false)
  | 2 => ("CourtWash$Wash", "wet", "[I", true)
  | 3 => ("CourtWash$Wash", "where", "[I", true)
  | 4 => ("CourtWash$Wash", "stained", "[Z", true)
  | 5 => ("CourtWash$Wash", "dripsOn", "[I", true)
  | _ => ("CourtWash$Wash", "redOn", "[Z", true)
def tyX9 : Nat → FieldType := fun k => match k with
  | 0 => .object "CourtWash$Court"
  | 1 => .int
  | 2 => .array .int
  | 3 => .array .int
  | 4 => .array .boolean
  | 5 => .array .int
  | _ => .array .boolean
theorem nmX9 : ∀ a, a < 7 → ∀ b, b < 7 → a ≠ b → (TX9 a).2.1 ≠ (TX9 b).2.1 := by decide +kernel
theorem tyX9_ok : ∀ k, k < 7 → parseFieldDescriptor (TX9 k).2.2.1 = some (tyX9 k) := by decide +kernel
abbrev cX9_init : ByteArray := prog_11_method_1_code
def yX9_init : MethodName := ⟨RX9, "<init>", "(LCourtWash$Court;)V"⟩
abbrev cX9_begin : ByteArray := prog_11_method_2_code
def yX9_begin : MethodName := ⟨RX9, "begin", "(LCourtWash$Court;)V"⟩
abbrev cX9_become : ByteArray := prog_11_method_3_code
def yX9_become : MethodName := ⟨RX9, "become", "(LCourtWash$Wash;)V"⟩
abbrev cX9_quarterNow : ByteArray := prog_11_method_4_code
def yX9_quarterNow : MethodName := ⟨RX9, "quarterNow", "()I"⟩
abbrev cX9_isHung : ByteArray := prog_11_method_5_code
def yX9_isHung : MethodName := ⟨RX9, "isHung", "(I)Z"⟩
abbrev cX9_putUp : ByteArray := prog_11_method_6_code
def yX9_putUp : MethodName := ⟨RX9, "putUp", "(II)V"⟩
abbrev cX9_takeDown : ByteArray := prog_11_method_7_code
def yX9_takeDown : MethodName := ⟨RX9, "takeDown", "(I)I"⟩
abbrev cX9_takeAllDown : ByteArray := prog_11_method_8_code
def yX9_takeAllDown : MethodName := ⟨RX9, "takeAllDown", "()V"⟩
abbrev cX9_bitsOn : ByteArray := prog_11_method_9_code
def yX9_bitsOn : MethodName := ⟨RX9, "bitsOn", "(I)I"⟩
abbrev cX9_hungBits : ByteArray := prog_11_method_10_code
def yX9_hungBits : MethodName := ⟨RX9, "hungBits", "()I"⟩
abbrev cX9_howManyStained : ByteArray := prog_11_method_11_code
def yX9_howManyStained : MethodName := ⟨RX9, "howManyStained", "()I"⟩
abbrev cX9_refusal : ByteArray := prog_11_method_12_code
def yX9_refusal : MethodName := ⟨RX9, "refusal", "(II)I"⟩
abbrev cX9_isOfOthers : ByteArray := prog_11_method_13_code
def yX9_isOfOthers : MethodName := ⟨RX9, "isOfOthers", "(II)Z"⟩
abbrev cX9_hasRoomFor : ByteArray := prog_11_method_14_code
def yX9_hasRoomFor : MethodName := ⟨RX9, "hasRoomFor", "(II)Z"⟩
abbrev cX9_yardsLeft : ByteArray := prog_11_method_15_code
def yX9_yardsLeft : MethodName := ⟨RX9, "yardsLeft", "(II)I"⟩
abbrev cX9_passQuarter : ByteArray := prog_11_method_16_code
def yX9_passQuarter : MethodName := ⟨RX9, "passQuarter", "()V"⟩
abbrev cX9_gatherDrips : ByteArray := prog_11_method_17_code
def yX9_gatherDrips : MethodName := ⟨RX9, "gatherDrips", "()V"⟩
abbrev cX9_takeDrips : ByteArray := prog_11_method_18_code
def yX9_takeDrips : MethodName := ⟨RX9, "takeDrips", "()V"⟩
abbrev cX9_allHungAreDry : ByteArray := prog_11_method_19_code
def yX9_allHungAreDry : MethodName := ⟨RX9, "allHungAreDry", "()Z"⟩
abbrev cX9_areDry : ByteArray := prog_11_method_20_code
def yX9_areDry : MethodName := ⟨RX9, "areDry", "(II)Z"⟩
abbrev cX9_areStainedSince : ByteArray := prog_11_method_21_code
def yX9_areStainedSince : MethodName := ⟨RX9, "areStainedSince", "(LCourtWash$Wash;II)Z"⟩
def RX10 : String := "CourtWash$Wool"
def TX10 : u_T := fun k => match k with
  | 0 => ("CourtWash$Piece", "number", "I", true)
  | 1 => ("CourtWash$Piece", "wet", "I", true)
  | 2 => ("CourtWash$Piece", "yards", "I", true)
  | _ => ("CourtWash$Piece", "trace", "LCourtWash$Trace;", true)
def tyX10 : Nat → FieldType := fun k => match k with
  | 0 => .int
  | 1 => .int
  | 2 => .int
  | _ => .object "CourtWash$Trace"
theorem nmX10 : ∀ a, a < 4 → ∀ b, b < 4 → a ≠ b → (TX10 a).2.1 ≠ (TX10 b).2.1 := by decide +kernel
theorem tyX10_ok : ∀ k, k < 4 → parseFieldDescriptor (TX10 k).2.2.1 = some (tyX10 k) := by decide +kernel
abbrev cX10_init : ByteArray := prog_12_method_1_code
def yX10_init : MethodName := ⟨RX10, "<init>", "(IIILCourtWash$Trace;)V"⟩
abbrev cX10_size : ByteArray := prog_12_method_2_code
def yX10_size : MethodName := ⟨RX10, "size", "()I"⟩
def RX11 : String := "CourtWash"
def TX11 : u_T := fun k => match k with
  | 0 => ("CourtWash", "rows", "LCourtWash$Rows;", true)
  | 1 => ("CourtWash", "reader", "LCourtWash$Reader;", true)
  | 2 => ("CourtWash", "wash", "LCourtWash$Wash;", true)
  | 3 => ("CourtWash", "firstImage", "LCourtWash$Wash;", true)
  | 4 => ("CourtWash", "secondImage", "LCourtWash$Wash;", true)
  | 5 => ("CourtWash", "draft", "LCourtWash$Wash;", true)
  | 6 => ("CourtWash", "trial", "LCourtWash$Wash;", true)
  | 7 => ("CourtWash", "trace", "LCourtWash$Trace;", true)
  | 8 => ("CourtWash", "triedLines", "[I", true)
  | 9 => ("CourtWash", "bestLines", "[I", true)
  | 10 => ("CourtWash", "timesAlone", "[I", true)
  | 11 => ("CourtWash", "leastTime", "I", false)
  | 12 => ("CourtWash", "bestTime", "I", false)
  | 13 => ("CourtWash", "latestFault", "I", false)
  | _ => ("CourtWash", "latestFinding", "I", false)
def tyX11 : Nat → FieldType := fun k => match k with
  | 0 => .object "CourtWash$Rows"
  | 1 => .object "CourtWash$Reader"
  | 2 => .object "CourtWash$Wash"
  | 3 => .object "CourtWash$Wash"
  | 4 => .object "CourtWash$Wash"
  | 5 => .object "CourtWash$Wash"
  | 6 => .object "CourtWash$Wash"
  | 7 => .object "CourtWash$Trace"
  | 8 => .array .int
  | 9 => .array .int
  | 10 => .array .int
  | 11 => .int
  | 12 => .int
  | 13 => .int
  | _ => .int
theorem nmX11 : ∀ a, a < 15 → ∀ b, b < 15 → a ≠ b → (TX11 a).2.1 ≠ (TX11 b).2.1 := by decide +kernel
theorem tyX11_ok : ∀ k, k < 15 → parseFieldDescriptor (TX11 k).2.2.1 = some (tyX11 k) := by decide +kernel
abbrev cX11_init : ByteArray := prog_1_method_1_code
def yX11_init : MethodName := ⟨RX11, "<init>", "()V"⟩
abbrev cX11_row : ByteArray := prog_1_method_2_code
def yX11_row : MethodName := ⟨RX11, "row", "(III)I"⟩
abbrev cX11_set : ByteArray := prog_1_method_3_code
def yX11_set : MethodName := ⟨RX11, "set", "(III)I"⟩
abbrev cX11_copy : ByteArray := prog_1_method_4_code
def yX11_copy : MethodName := ⟨RX11, "copy", "(IIIII)I"⟩
abbrev cX11_drop : ByteArray := prog_1_method_5_code
def yX11_drop : MethodName := ⟨RX11, "drop", "(I)I"⟩
abbrev cX11_feed : ByteArray := prog_1_method_6_code
def yX11_feed : MethodName := ⟨RX11, "feed", "(JI)I"⟩
abbrev cX11_court : ByteArray := prog_1_method_7_code
def yX11_court : MethodName := ⟨RX11, "court", "()I"⟩
abbrev cX11_fault : ByteArray := prog_1_method_8_code
def yX11_fault : MethodName := ⟨RX11, "fault", "()I"⟩
abbrev cX11_hang : ByteArray := prog_1_method_9_code
def yX11_hang : MethodName := ⟨RX11, "hang", "(II)I"⟩
abbrev cX11_take : ByteArray := prog_1_method_10_code
def yX11_take : MethodName := ⟨RX11, "take", "(I)I"⟩
abbrev cX11_quarters : ByteArray := prog_1_method_11_code
def yX11_quarters : MethodName := ⟨RX11, "quarters", "(I)I"⟩
abbrev cX11_lay : ByteArray := prog_1_method_12_code
def yX11_lay : MethodName := ⟨RX11, "lay", "(II)I"⟩
abbrev cX11_piece : ByteArray := prog_1_method_13_code
def yX11_piece : MethodName := ⟨RX11, "piece", "(II)I"⟩
abbrev cX11_line : ByteArray := prog_1_method_14_code
def yX11_line : MethodName := ⟨RX11, "line", "(II)I"⟩
abbrev cX11_dry : ByteArray := prog_1_method_15_code
def yX11_dry : MethodName := ⟨RX11, "dry", "()I"⟩
abbrev cX11_plan : ByteArray := prog_1_method_16_code
def yX11_plan : MethodName := ⟨RX11, "plan", "(II)I"⟩
abbrev cX11_whose : ByteArray := prog_1_method_17_code
def yX11_whose : MethodName := ⟨RX11, "whose", "(II)I"⟩
abbrev cX11_sun : ByteArray := prog_1_method_18_code
def yX11_sun : MethodName := ⟨RX11, "sun", "(II)I"⟩
abbrev cX11_rings : ByteArray := prog_1_method_19_code
def yX11_rings : MethodName := ⟨RX11, "rings", "(III)I"⟩
abbrev cX11_rain : ByteArray := prog_1_method_20_code
def yX11_rain : MethodName := ⟨RX11, "rain", "(II)I"⟩
abbrev cX11_image : ByteArray := prog_1_method_21_code
def yX11_image : MethodName := ⟨RX11, "image", "(I)I"⟩
abbrev cX11_restore : ByteArray := prog_1_method_22_code
def yX11_restore : MethodName := ⟨RX11, "restore", "(I)I"⟩
abbrev cX11_kind : ByteArray := prog_1_method_23_code
def yX11_kind : MethodName := ⟨RX11, "kind", "(I)I"⟩
abbrev cX11_as : ByteArray := prog_1_method_24_code
def yX11_as : MethodName := ⟨RX11, "as", "(II)I"⟩
abbrev cX11_ask : ByteArray := prog_1_method_25_code
def yX11_ask : MethodName := ⟨RX11, "ask", "(II)I"⟩
abbrev cX11_trace : ByteArray := prog_1_method_26_code
def yX11_trace : MethodName := ⟨RX11, "trace", "(I)I"⟩
abbrev cX11_count : ByteArray := prog_1_method_27_code
def yX11_count : MethodName := ⟨RX11, "count", "(I)I"⟩
abbrev cX11_status : ByteArray := prog_1_method_28_code
def yX11_status : MethodName := ⟨RX11, "status", "()I"⟩
abbrev cX11_isIn : ByteArray := prog_1_method_29_code
def yX11_isIn : MethodName := ⟨RX11, "isIn", "(III)Z"⟩
abbrev cX11_found : ByteArray := prog_1_method_30_code
def yX11_found : MethodName := ⟨RX11, "found", "(I)I"⟩
abbrev cX11_unfound : ByteArray := prog_1_method_31_code
def yX11_unfound : MethodName := ⟨RX11, "unfound", "(I)I"⟩
abbrev cX11_noCourt : ByteArray := prog_1_method_32_code
def yX11_noCourt : MethodName := ⟨RX11, "noCourt", "()Z"⟩
abbrev cX11_isPiece : ByteArray := prog_1_method_33_code
def yX11_isPiece : MethodName := ⟨RX11, "isPiece", "(I)Z"⟩
abbrev cX11_isLine : ByteArray := prog_1_method_34_code
def yX11_isLine : MethodName := ⟨RX11, "isLine", "(I)Z"⟩
abbrev cX11_imageOf : ByteArray := prog_1_method_35_code
def yX11_imageOf : MethodName := ⟨RX11, "imageOf", "(I)LCourtWash$Wash;"⟩
abbrev cX11_draftLaid : ByteArray := prog_1_method_36_code
def yX11_draftLaid : MethodName := ⟨RX11, "draftLaid", "(II)I"⟩
abbrev cX11_hangsAbove : ByteArray := prog_1_method_37_code
def yX11_hangsAbove : MethodName := ⟨RX11, "hangsAbove", "(III)Z"⟩
abbrev cX11_findPlan : ByteArray := prog_1_method_38_code
def yX11_findPlan : MethodName := ⟨RX11, "findPlan", "(I)V"⟩
abbrev cX11_leastTimeAlone : ByteArray := prog_1_method_39_code
def yX11_leastTimeAlone : MethodName := ⟨RX11, "leastTimeAlone", "(I)I"⟩
abbrev cX11_planPiece : ByteArray := prog_1_method_40_code
def yX11_planPiece : MethodName := ⟨RX11, "planPiece", "(II)V"⟩
abbrev cX11_timeUntilDry : ByteArray := prog_1_method_41_code
def yX11_timeUntilDry : MethodName := ⟨RX11, "timeUntilDry", "(III)I"⟩
abbrev cX11_linesByRings : ByteArray := prog_1_method_42_code
def yX11_linesByRings : MethodName := ⟨RX11, "linesByRings", "([I)[I"⟩
abbrev cX11_likedMost : ByteArray := prog_1_method_43_code
def yX11_likedMost : MethodName := ⟨RX11, "likedMost", "(I[I[I)I"⟩
abbrev cX11_likesMore : ByteArray := prog_1_method_44_code
def yX11_likesMore : MethodName := ⟨RX11, "likesMore", "(III)Z"⟩
abbrev cX11_isInRing : ByteArray := prog_1_method_45_code
def yX11_isInRing : MethodName := ⟨RX11, "isInRing", "(I[I)Z"⟩
abbrev cX11_yardsWet : ByteArray := prog_1_method_46_code
def yX11_yardsWet : MethodName := ⟨RX11, "yardsWet", "(I)I"⟩
abbrev cX11_takenNext : ByteArray := prog_1_method_47_code
def yX11_takenNext : MethodName := ⟨RX11, "takenNext", "(I)I"⟩
abbrev cX11_pieceAsked : ByteArray := prog_1_method_48_code
def yX11_pieceAsked : MethodName := ⟨RX11, "pieceAsked", "(I)LCourtWash$Piece;"⟩
abbrev cX11_isOfKind : ByteArray := prog_1_method_49_code
def yX11_isOfKind : MethodName := ⟨RX11, "isOfKind", "(LCourtWash$Piece;I)Z"⟩
def RX12 : String := "CourtWashModel"
def TX12 : u_T := fun k => match k with
  | 0 => ("CourtWashModel", "thrown", "I", false)
  | 1 => ("CourtWashModel", "status", "I", false)
  | 2 => ("CourtWashModel", "lane", "[I", true)
  | 3 => ("CourtWashModel", "many", "[I", true)
  | 4 => ("CourtWashModel", "item", "[I", true)
  | 5 => ("CourtWashModel", "court", "[I", true)
  | 6 => ("CourtWashModel", "fresh", "[I", true)
  | 7 => ("CourtWashModel", "isThere", "Z", false)
  | 8 => ("CourtWashModel", "tape", "[I", true)
  | 9 => ("CourtWashModel", "taped", "I", false)
  | 10 => ("CourtWashModel", "latest", "I", false)
  | 11 => ("CourtWashModel", "length", "I", false)
  | 12 => ("CourtWashModel", "cursor", "I", false)
  | 13 => ("CourtWashModel", "token", "I", false)
  | 14 => ("CourtWashModel", "start", "I", false)
  | 15 => ("CourtWashModel", "till", "I", false)
  | 16 => ("CourtWashModel", "fault", "I", false)
  | 17 => ("CourtWashModel", "faultAt", "I", false)
  | 18 => ("CourtWashModel", "hung", "[I", true)
  | 19 => ("CourtWashModel", "wet", "[I", true)
  | 20 => ("CourtWashModel", "stained", "I", false)
  | 21 => ("CourtWashModel", "has", "[I", true)
  | 22 => ("CourtWashModel", "gets", "[I", true)
  | 23 => ("CourtWashModel", "points", "[I", true)
  | 24 => ("CourtWashModel", "isKept", "[Z", true)
  | 25 => ("CourtWashModel", "kept", "[I", true)
  | 26 => ("CourtWashModel", "trace", "[I", true)
  | _ => ("CourtWashModel", "traced", "I", false)
def tyX12 : Nat → FieldType := fun k => match k with
  | 0 => .int
  | 1 => .int
  | 2 => .array .int
  | 3 => .array .int
  | 4 => .array .int
  | 5 => .array .int
  | 6 => .array .int
  | 7 => .boolean
  | 8 => .array .int
  | 9 => .int
  | 10 => .int
  | 11 => .int
  | 12 => .int
  | 13 => .int
  | 14 => .int
  | 15 => .int
  | 16 => .int
  | 17 => .int
  | 18 => .array .int
  | 19 => .array .int
  | 20 => .int
  | 21 => .array .int
  | 22 => .array .int
  | 23 => .array .int
  | 24 => .array .boolean
  | 25 => .array .int
  | 26 => .array .int
  | _ => .int
theorem nmX12 : ∀ a, a < 28 → ∀ b, b < 28 → a ≠ b → (TX12 a).2.1 ≠ (TX12 b).2.1 := by decide +kernel
theorem tyX12_ok : ∀ k, k < 28 → parseFieldDescriptor (TX12 k).2.2.1 = some (tyX12 k) := by decide +kernel
abbrev cX12_init : ByteArray := prog_14_method_1_code
def yX12_init : MethodName := ⟨RX12, "<init>", "()V"⟩
abbrev cX12_in : ByteArray := prog_14_method_3_code
def yX12_in : MethodName := ⟨RX12, "in", "(JJJ)Z"⟩
abbrev cX12_finding : ByteArray := prog_14_method_4_code
def yX12_finding : MethodName := ⟨RX12, "finding", "(I)I"⟩
abbrev cX12_isRow : ByteArray := prog_14_method_5_code
def yX12_isRow : MethodName := ⟨RX12, "isRow", "(I)Z"⟩
abbrev cX12_row : ByteArray := prog_14_method_6_code
def yX12_row : MethodName := ⟨RX12, "row", "(III)I"⟩
abbrev cX12_set : ByteArray := prog_14_method_7_code
def yX12_set : MethodName := ⟨RX12, "set", "(III)I"⟩
abbrev cX12_copy : ByteArray := prog_14_method_8_code
def yX12_copy : MethodName := ⟨RX12, "copy", "(IIIII)I"⟩
abbrev cX12_drop : ByteArray := prog_14_method_9_code
def yX12_drop : MethodName := ⟨RX12, "drop", "(I)I"⟩
abbrev cX12_feed : ByteArray := prog_14_method_10_code
def yX12_feed : MethodName := ⟨RX12, "feed", "(JI)I"⟩
abbrev cX12_byteAt : ByteArray := prog_14_method_11_code
def yX12_byteAt : MethodName := ⟨RX12, "byteAt", "(I)I"⟩
abbrev cX12_isLetter : ByteArray := prog_14_method_12_code
def yX12_isLetter : MethodName := ⟨RX12, "isLetter", "(I)Z"⟩
abbrev cX12_isFigure : ByteArray := prog_14_method_13_code
def yX12_isFigure : MethodName := ⟨RX12, "isFigure", "(I)Z"⟩
abbrev cX12_next : ByteArray := prog_14_method_14_code
def yX12_next : MethodName := ⟨RX12, "next", "()V"⟩
abbrev cX12_begin : ByteArray := prog_14_method_15_code
def yX12_begin : MethodName := ⟨RX12, "begin", "()V"⟩
abbrev cX12_bad : ByteArray := prog_14_method_16_code
def yX12_bad : MethodName := ⟨RX12, "bad", "(I)V"⟩
abbrev cX12_must : ByteArray := prog_14_method_17_code
def yX12_must : MethodName := ⟨RX12, "must", "(Z)V"⟩
abbrev cX12_name : ByteArray := prog_14_method_18_code
def yX12_name : MethodName := ⟨RX12, "name", "()J"⟩
abbrev cX12_figures : ByteArray := prog_14_method_19_code
def yX12_figures : MethodName := ⟨RX12, "figures", "()I"⟩
abbrev cX12_number : ByteArray := prog_14_method_20_code
def yX12_number : MethodName := ⟨RX12, "number", "(II)I"⟩
abbrev cX12_kindBy : ByteArray := prog_14_method_21_code
def yX12_kindBy : MethodName := ⟨RX12, "kindBy", "(J)I"⟩
abbrev cX12_mustEnd : ByteArray := prog_14_method_22_code
def yX12_mustEnd : MethodName := ⟨RX12, "mustEnd", "()V"⟩
abbrev cX12_begins : ByteArray := prog_14_method_23_code
def yX12_begins : MethodName := ⟨RX12, "begins", "(II)V"⟩
abbrev cX12_isTold : ByteArray := prog_14_method_24_code
def yX12_isTold : MethodName := ⟨RX12, "isTold", "(II)Z"⟩
abbrev cX12_readDay : ByteArray := prog_14_method_25_code
def yX12_readDay : MethodName := ⟨RX12, "readDay", "()V"⟩
abbrev cX12_readLine : ByteArray := prog_14_method_26_code
def yX12_readLine : MethodName := ⟨RX12, "readLine", "()V"⟩
abbrev cX12_readRight : ByteArray := prog_14_method_27_code
def yX12_readRight : MethodName := ⟨RX12, "readRight", "()V"⟩
abbrev cX12_readPiece : ByteArray := prog_14_method_28_code
def yX12_readPiece : MethodName := ⟨RX12, "readPiece", "()V"⟩
abbrev cX12_court : ByteArray := prog_14_method_29_code
def yX12_court : MethodName := ⟨RX12, "court", "()I"⟩
abbrev cX12_fault : ByteArray := prog_14_method_30_code
def yX12_fault : MethodName := ⟨RX12, "fault", "()I"⟩
abbrev cX12_isLine : ByteArray := prog_14_method_31_code
def yX12_isLine : MethodName := ⟨RX12, "isLine", "(I)Z"⟩
abbrev cX12_isPiece : ByteArray := prog_14_method_32_code
def yX12_isPiece : MethodName := ⟨RX12, "isPiece", "(I)Z"⟩
abbrev cX12_of : ByteArray := prog_14_method_33_code
def yX12_of : MethodName := ⟨RX12, "of", "(II)I"⟩
abbrev cX12_floor : ByteArray := prog_14_method_34_code
def yX12_floor : MethodName := ⟨RX12, "floor", "(I)I"⟩
abbrev cX12_below : ByteArray := prog_14_method_35_code
def yX12_below : MethodName := ⟨RX12, "below", "(I)I"⟩
abbrev cX12_rightsTo : ByteArray := prog_14_method_36_code
def yX12_rightsTo : MethodName := ⟨RX12, "rightsTo", "(I)I"⟩
abbrev cX12_layNow : ByteArray := prog_14_method_37_code
def yX12_layNow : MethodName := ⟨RX12, "layNow", "()V"⟩
abbrev cX12_keepNow : ByteArray := prog_14_method_38_code
def yX12_keepNow : MethodName := ⟨RX12, "keepNow", "()V"⟩
abbrev cX12_yardsOn : ByteArray := prog_14_method_39_code
def yX12_yardsOn : MethodName := ⟨RX12, "yardsOn", "(I)I"⟩
abbrev cX12_hasSheet : ByteArray := prog_14_method_40_code
def yX12_hasSheet : MethodName := ⟨RX12, "hasSheet", "(I)Z"⟩
abbrev cX12_comes : ByteArray := prog_14_method_41_code
def yX12_comes : MethodName := ⟨RX12, "comes", "(II)I"⟩
abbrev cX12_hang : ByteArray := prog_14_method_42_code
def yX12_hang : MethodName := ⟨RX12, "hang", "(II)I"⟩
abbrev cX12_take : ByteArray := prog_14_method_43_code
def yX12_take : MethodName := ⟨RX12, "take", "(I)I"⟩
abbrev cX12_hasSun : ByteArray := prog_14_method_44_code
def yX12_hasSun : MethodName := ⟨RX12, "hasSun", "(III)Z"⟩
abbrev cX12_dries : ByteArray := prog_14_method_45_code
def yX12_dries : MethodName := ⟨RX12, "dries", "(II)V"⟩
abbrev cX12_isReddish : ByteArray := prog_14_method_46_code
def yX12_isReddish : MethodName := ⟨RX12, "isReddish", "(I)Z"⟩
abbrev cX12_goOn : ByteArray := prog_14_method_47_code
def yX12_goOn : MethodName := ⟨RX12, "goOn", "(I)V"⟩
abbrev cX12_quarters : ByteArray := prog_14_method_48_code
def yX12_quarters : MethodName := ⟨RX12, "quarters", "(I)I"⟩
abbrev cX12_lay : ByteArray := prog_14_method_49_code
def yX12_lay : MethodName := ⟨RX12, "lay", "(II)I"⟩
abbrev cX12_piece : ByteArray := prog_14_method_50_code
def yX12_piece : MethodName := ⟨RX12, "piece", "(II)I"⟩
abbrev cX12_hangOn : ByteArray := prog_14_method_51_code
def yX12_hangOn : MethodName := ⟨RX12, "hangOn", "(I)I"⟩
abbrev cX12_line : ByteArray := prog_14_method_52_code
def yX12_line : MethodName := ⟨RX12, "line", "(II)I"⟩
abbrev cX12_areDry : ByteArray := prog_14_method_53_code
def yX12_areDry : MethodName := ⟨RX12, "areDry", "(I)Z"⟩
abbrev cX12_dry : ByteArray := prog_14_method_54_code
def yX12_dry : MethodName := ⟨RX12, "dry", "()I"⟩
abbrev cX12_dryBy : ByteArray := prog_14_method_55_code
def yX12_dryBy : MethodName := ⟨RX12, "dryBy", "(II)I"⟩
abbrev cX12_plan : ByteArray := prog_14_method_56_code
def yX12_plan : MethodName := ⟨RX12, "plan", "(II)I"⟩
abbrev cX12_whose : ByteArray := prog_14_method_57_code
def yX12_whose : MethodName := ⟨RX12, "whose", "(II)I"⟩
abbrev cX12_sunsOf : ByteArray := prog_14_method_58_code
def yX12_sunsOf : MethodName := ⟨RX12, "sunsOf", "(IIII)I"⟩
abbrev cX12_sun : ByteArray := prog_14_method_59_code
def yX12_sun : MethodName := ⟨RX12, "sun", "(II)I"⟩
abbrev cX12_point : ByteArray := prog_14_method_60_code
def yX12_point : MethodName := ⟨RX12, "point", "(II)V"⟩
abbrev cX12_isInRing : ByteArray := prog_14_method_61_code
def yX12_isInRing : MethodName := ⟨RX12, "isInRing", "(II)Z"⟩
abbrev cX12_turn : ByteArray := prog_14_method_62_code
def yX12_turn : MethodName := ⟨RX12, "turn", "(I)Z"⟩
abbrev cX12_rings : ByteArray := prog_14_method_63_code
def yX12_rings : MethodName := ⟨RX12, "rings", "(III)I"⟩
abbrev cX12_nextIn : ByteArray := prog_14_method_64_code
def yX12_nextIn : MethodName := ⟨RX12, "nextIn", "(I)I"⟩
abbrev cX12_rain : ByteArray := prog_14_method_65_code
def yX12_rain : MethodName := ⟨RX12, "rain", "(II)I"⟩
abbrev cX12_image : ByteArray := prog_14_method_66_code
def yX12_image : MethodName := ⟨RX12, "image", "(I)I"⟩
abbrev cX12_restore : ByteArray := prog_14_method_67_code
def yX12_restore : MethodName := ⟨RX12, "restore", "(I)I"⟩
abbrev cX12_isOf : ByteArray := prog_14_method_68_code
def yX12_isOf : MethodName := ⟨RX12, "isOf", "(II)Z"⟩
abbrev cX12_kind : ByteArray := prog_14_method_69_code
def yX12_kind : MethodName := ⟨RX12, "kind", "(I)I"⟩
abbrev cX12_as : ByteArray := prog_14_method_70_code
def yX12_as : MethodName := ⟨RX12, "as", "(II)I"⟩
abbrev cX12_began : ByteArray := prog_14_method_71_code
def yX12_began : MethodName := ⟨RX12, "began", "(I)V"⟩
abbrev cX12_redMark : ByteArray := prog_14_method_72_code
def yX12_redMark : MethodName := ⟨RX12, "redMark", "(I)I"⟩
abbrev cX12_plainSize : ByteArray := prog_14_method_73_code
def yX12_plainSize : MethodName := ⟨RX12, "plainSize", "(I)I"⟩
abbrev cX12_sizeOf : ByteArray := prog_14_method_74_code
def yX12_sizeOf : MethodName := ⟨RX12, "sizeOf", "(I)I"⟩
abbrev cX12_markOf : ByteArray := prog_14_method_75_code
def yX12_markOf : MethodName := ⟨RX12, "markOf", "(I)I"⟩
abbrev cX12_ask : ByteArray := prog_14_method_76_code
def yX12_ask : MethodName := ⟨RX12, "ask", "(II)I"⟩
abbrev cX12_trace : ByteArray := prog_14_method_77_code
def yX12_trace : MethodName := ⟨RX12, "trace", "(I)I"⟩
abbrev cX12_count : ByteArray := prog_14_method_78_code
def yX12_count : MethodName := ⟨RX12, "count", "(I)I"⟩
abbrev cX12_status : ByteArray := prog_14_method_79_code
def yX12_status : MethodName := ⟨RX12, "status", "()I"⟩
def RJ6 : String := "java/lang/Integer"
abbrev cJ6_bitCount_0f7a4 : ByteArray := prog_16_method_49_code
def yJ6_bitCount_0f7a4 : MethodName := ⟨RJ6, "bitCount", "(I)I"⟩
def RJ9 : String := "java/lang/Math"
abbrev cJ9_floorMod_7cf53 : ByteArray := prog_17_method_50_code
def yJ9_floorMod_7cf53 : MethodName := ⟨RJ9, "floorMod", "(II)I"⟩
abbrev cJ9_max_7cf53 : ByteArray := prog_17_method_65_code
def yJ9_max_7cf53 : MethodName := ⟨RJ9, "max", "(II)I"⟩
abbrev cJ9_min_7cf53 : ByteArray := prog_17_method_69_code
def yJ9_min_7cf53 : MethodName := ⟨RJ9, "min", "(II)I"⟩
def RJ0 : String := "java/lang/String"
abbrev cJ0_length_8abf5 : ByteArray := prog_18_method_54_code
def yJ0_length_8abf5 : MethodName := ⟨RJ0, "length", "()I"⟩
abbrev cJ0_charAt_5068e : ByteArray := prog_18_method_56_code
def yJ0_charAt_5068e : MethodName := ⟨RJ0, "charAt", "(I)C"⟩
abbrev cJ0_coder_7d493 : ByteArray := prog_18_method_152_code
def yJ0_coder_7d493 : MethodName := ⟨RJ0, "coder", "()B"⟩
abbrev cJ0_isLatin1_aae02 : ByteArray := prog_18_method_154_code
def yJ0_isLatin1_aae02 : MethodName := ⟨RJ0, "isLatin1", "()Z"⟩
abbrev cJ0_checkIndex_df160 : ByteArray := prog_18_method_155_code
def yJ0_checkIndex_df160 : MethodName := ⟨RJ0, "checkIndex", "(II)V"⟩
def RJ1 : String := "java/lang/StringLatin1"
abbrev cJ1_charAt_3b067 : ByteArray := prog_19_method_2_code
def yJ1_charAt_3b067 : MethodName := ⟨RJ1, "charAt", "([BI)C"⟩
def RJ2 : String := "java/lang/StringUTF16"
abbrev cJ2_getChar_3b067 : ByteArray := prog_20_method_5_code
def yJ2_getChar_3b067 : MethodName := ⟨RJ2, "getChar", "([BI)C"⟩
abbrev cJ2_length_9d52b : ByteArray := prog_20_method_6_code
def yJ2_length_9d52b : MethodName := ⟨RJ2, "length", "([B)I"⟩
abbrev cJ2_charAt_3b067 : ByteArray := prog_20_method_83_code
def yJ2_charAt_3b067 : MethodName := ⟨RJ2, "charAt", "([BI)C"⟩
abbrev cJ2_checkIndex_2214a : ByteArray := prog_20_method_91_code
def yJ2_checkIndex_2214a : MethodName := ⟨RJ2, "checkIndex", "(I[B)V"⟩
def RJ10 : String := "java/lang/System"
def RJ7 : String := "java/util/Arrays"
abbrev cJ7_rangeCheck_23922 : ByteArray := prog_22_method_30_code
def yJ7_rangeCheck_23922 : MethodName := ⟨RJ7, "rangeCheck", "(III)V"⟩
abbrev cJ7_fill_53178 : ByteArray := prog_22_method_103_code
def yJ7_fill_53178 : MethodName := ⟨RJ7, "fill", "([II)V"⟩
abbrev cJ7_fill_fda19 : ByteArray := prog_22_method_104_code
def yJ7_fill_fda19 : MethodName := ⟨RJ7, "fill", "([IIII)V"⟩
abbrev cJ7_checkLength_df160 : ByteArray := prog_22_method_131_code
def yJ7_checkLength_df160 : MethodName := ⟨RJ7, "checkLength", "(II)V"⟩
abbrev cJ7_copyOfRange_feecc : ByteArray := prog_22_method_136_code
def yJ7_copyOfRange_feecc : MethodName := ⟨RJ7, "copyOfRange", "([III)[I"⟩
abbrev cJ7_copyOfRangeInt_feecc : ByteArray := prog_22_method_137_code
def yJ7_copyOfRangeInt_feecc : MethodName := ⟨RJ7, "copyOfRangeInt", "([III)[I"⟩
def RJ3 : String := "jdk/internal/util/Preconditions"
abbrev cJ3_checkIndex_8e157 : ByteArray := prog_23_method_11_code
def yJ3_checkIndex_8e157 : MethodName := ⟨RJ3, "checkIndex", "(IILjava/util/function/BiFunction;)I"⟩
def RL : String := "CourtWashLaw"
abbrev cL_law : ByteArray := code
def yL_law : MethodName := ⟨RL, "law", "([I)Z"⟩
end
section
theorem dX0_init_0 : decode cX0_init 0 = .ok (.aload_n 0, 1) := by decide +kernel
theorem dX0_init_1 : decode cX0_init 1 = .ok (.iload_n 1, 1) := by decide +kernel
theorem dX0_init_2 : decode cX0_init 2 = .ok (.iload_n 2, 1) := by decide +kernel
theorem dX0_init_3 : decode cX0_init 3 = .ok (.iload_n 3, 1) := by decide +kernel
theorem dX0_init_4 : decode cX0_init 4 = .ok (.aload 4, 2) := by decide +kernel
theorem dX0_init_6 : decode cX0_init 6 = .ok (.invokespecial 1, 3) := by decide +kernel
theorem dX0_init_9 : decode cX0_init 9 = .ok (.return_, 1) := by decide +kernel
theorem dX0_size_0 : decode cX0_size 0 = .ok (.aload_n 0, 1) := by decide +kernel
theorem dX0_size_1 : decode cX0_size 1 = .ok (.getfield 7, 3) := by decide +kernel
theorem dX0_size_4 : decode cX0_size 4 = .ok (.bipush 12, 2) := by decide +kernel
theorem dX0_size_6 : decode cX0_size 6 = .ok (.invokevirtual 13, 3) := by decide +kernel
theorem dX0_size_9 : decode cX0_size 9 = .ok (.aload_n 0, 1) := by decide +kernel
theorem dX0_size_10 : decode cX0_size 10 = .ok (.invokespecial 19, 3) := by decide +kernel
theorem dX0_size_13 : decode cX0_size 13 = .ok (.ineg, 1) := by decide +kernel
theorem dX0_size_14 : decode cX0_size 14 = .ok (.ireturn, 1) := by decide +kernel
theorem dX0_mark_0 : decode cX0_mark 0 = .ok (.aload_n 0, 1) := by decide +kernel
theorem dX0_mark_1 : decode cX0_mark 1 = .ok (.getfield 7, 3) := by decide +kernel
theorem dX0_mark_4 : decode cX0_mark 4 = .ok (.bipush 24, 2) := by decide +kernel
theorem dX0_mark_6 : decode cX0_mark 6 = .ok (.invokevirtual 13, 3) := by decide +kernel
theorem dX0_mark_9 : decode cX0_mark 9 = .ok (.aload_n 0, 1) := by decide +kernel
theorem dX0_mark_10 : decode cX0_mark 10 = .ok (.invokespecial 23, 3) := by decide +kernel
theorem dX0_mark_13 : decode cX0_mark 13 = .ok (.sipush 1000, 3) := by decide +kernel
theorem dX0_mark_16 : decode cX0_mark 16 = .ok (.iadd, 1) := by decide +kernel
theorem dX0_mark_17 : decode cX0_mark 17 = .ok (.ireturn, 1) := by decide +kernel
theorem dX1_init_0 : decode cX1_init 0 = .ok (.aload_n 0, 1) := by decide +kernel
theorem dX1_init_1 : decode cX1_init 1 = .ok (.invokespecial 3, 3) := by decide +kernel
theorem dX1_init_4 : decode cX1_init 4 = .ok (.aload_n 0, 1) := by decide +kernel
theorem dX1_init_5 : decode cX1_init 5 = .ok (.bipush 24, 2) := by decide +kernel
theorem dX1_init_7 : decode cX1_init 7 = .ok (.newarray .int, 2) := by decide +kernel
theorem dX1_init_9 : decode cX1_init 9 = .ok (.putfield 9, 3) := by decide +kernel
theorem dX1_init_12 : decode cX1_init 12 = .ok (.aload_n 0, 1) := by decide +kernel
theorem dX1_init_13 : decode cX1_init 13 = .ok (.bipush 8, 2) := by decide +kernel
theorem dX1_init_15 : decode cX1_init 15 = .ok (.newarray .int, 2) := by decide +kernel
theorem dX1_init_17 : decode cX1_init 17 = .ok (.putfield 15, 3) := by decide +kernel
theorem dX1_init_20 : decode cX1_init 20 = .ok (.aload_n 0, 1) := by decide +kernel
theorem dX1_init_21 : decode cX1_init 21 = .ok (.bipush 8, 2) := by decide +kernel
theorem dX1_init_23 : decode cX1_init 23 = .ok (.newarray .int, 2) := by decide +kernel
theorem dX1_init_25 : decode cX1_init 25 = .ok (.putfield 18, 3) := by decide +kernel
theorem dX1_init_28 : decode cX1_init 28 = .ok (.aload_n 0, 1) := by decide +kernel
theorem dX1_init_29 : decode cX1_init 29 = .ok (.bipush 8, 2) := by decide +kernel
theorem dX1_init_31 : decode cX1_init 31 = .ok (.newarray .int, 2) := by decide +kernel
theorem dX1_init_33 : decode cX1_init 33 = .ok (.putfield 21, 3) := by decide +kernel
theorem dX1_init_36 : decode cX1_init 36 = .ok (.aload_n 0, 1) := by decide +kernel
theorem dX1_init_37 : decode cX1_init 37 = .ok (.bipush 8, 2) := by decide +kernel
theorem dX1_init_39 : decode cX1_init 39 = .ok (.newarray .int, 2) := by decide +kernel
theorem dX1_init_41 : decode cX1_init 41 = .ok (.putfield 24, 3) := by decide +kernel
theorem dX1_init_44 : decode cX1_init 44 = .ok (.aload_n 0, 1) := by decide +kernel
theorem dX1_init_45 : decode cX1_init 45 = .ok (.bipush 8, 2) := by decide +kernel
theorem dX1_init_47 : decode cX1_init 47 = .ok (.newarray .int, 2) := by decide +kernel
theorem dX1_init_49 : decode cX1_init 49 = .ok (.putfield 27, 3) := by decide +kernel
theorem dX1_init_52 : decode cX1_init 52 = .ok (.aload_n 0, 1) := by decide +kernel
theorem dX1_init_53 : decode cX1_init 53 = .ok (.bipush 8, 2) := by decide +kernel
theorem dX1_init_55 : decode cX1_init 55 = .ok (.newarray .int, 2) := by decide +kernel
theorem dX1_init_57 : decode cX1_init 57 = .ok (.putfield 30, 3) := by decide +kernel
theorem dX1_init_60 : decode cX1_init 60 = .ok (.aload_n 0, 1) := by decide +kernel
theorem dX1_init_61 : decode cX1_init 61 = .ok (.bipush 8, 2) := by decide +kernel
theorem dX1_init_63 : decode cX1_init 63 = .ok (.newarray .int, 2) := by decide +kernel
theorem dX1_init_65 : decode cX1_init 65 = .ok (.putfield 33, 3) := by decide +kernel
theorem dX1_init_68 : decode cX1_init 68 = .ok (.aload_n 0, 1) := by decide +kernel
theorem dX1_init_69 : decode cX1_init 69 = .ok (.bipush 8, 2) := by decide +kernel
theorem dX1_init_71 : decode cX1_init 71 = .ok (.newarray .int, 2) := by decide +kernel
theorem dX1_init_73 : decode cX1_init 73 = .ok (.putfield 36, 3) := by decide +kernel
theorem dX1_init_76 : decode cX1_init 76 = .ok (.aload_n 0, 1) := by decide +kernel
theorem dX1_init_77 : decode cX1_init 77 = .ok (.bipush 10, 2) := by decide +kernel
theorem dX1_init_79 : decode cX1_init 79 = .ok (.newarray .int, 2) := by decide +kernel
theorem dX1_init_81 : decode cX1_init 81 = .ok (.putfield 39, 3) := by decide +kernel
theorem dX1_init_84 : decode cX1_init 84 = .ok (.aload_n 0, 1) := by decide +kernel
theorem dX1_init_85 : decode cX1_init 85 = .ok (.bipush 10, 2) := by decide +kernel
theorem dX1_init_87 : decode cX1_init 87 = .ok (.newarray .int, 2) := by decide +kernel
theorem dX1_init_89 : decode cX1_init 89 = .ok (.putfield 42, 3) := by decide +kernel
theorem dX1_init_92 : decode cX1_init 92 = .ok (.aload_n 0, 1) := by decide +kernel
theorem dX1_init_93 : decode cX1_init 93 = .ok (.bipush 10, 2) := by decide +kernel
theorem dX1_init_95 : decode cX1_init 95 = .ok (.newarray .int, 2) := by decide +kernel
theorem dX1_init_97 : decode cX1_init 97 = .ok (.putfield 45, 3) := by decide +kernel
theorem dX1_init_100 : decode cX1_init 100 = .ok (.aload_n 0, 1) := by decide +kernel
theorem dX1_init_101 : decode cX1_init 101 = .ok (.bipush 10, 2) := by decide +kernel
theorem dX1_init_103 : decode cX1_init 103 = .ok (.newarray .int, 2) := by decide +kernel
theorem dX1_init_105 : decode cX1_init 105 = .ok (.putfield 48, 3) := by decide +kernel
theorem dX1_init_108 : decode cX1_init 108 = .ok (.return_, 1) := by decide +kernel
theorem dX1_isTold_0 : decode cX1_isTold 0 = .ok (.aload_n 0, 1) := by decide +kernel
theorem dX1_isTold_1 : decode cX1_isTold 1 = .ok (.getfield 51, 3) := by decide +kernel
theorem dX1_isTold_4 : decode cX1_isTold 4 = .ok (.ifCond .le 7, 3) := by decide +kernel
theorem dX1_isTold_7 : decode cX1_isTold 7 = .ok (.iconst 1, 1) := by decide +kernel
theorem dX1_isTold_8 : decode cX1_isTold 8 = .ok (.goto 4, 3) := by decide +kernel
theorem dX1_isTold_11 : decode cX1_isTold 11 = .ok (.iconst 0, 1) := by decide +kernel
theorem dX1_isTold_12 : decode cX1_isTold 12 = .ok (.ireturn, 1) := by decide +kernel
theorem dX1_addLine_0 : decode cX1_addLine 0 = .ok (.aload_n 0, 1) := by decide +kernel
theorem dX1_addLine_1 : decode cX1_addLine 1 = .ok (.getfield 51, 3) := by decide +kernel
theorem dX1_addLine_4 : decode cX1_addLine 4 = .ok (.bipush 8, 2) := by decide +kernel
theorem dX1_addLine_6 : decode cX1_addLine 6 = .ok (.if_icmp .ge 43, 3) := by decide +kernel
theorem dX1_addLine_9 : decode cX1_addLine 9 = .ok (.aload_n 0, 1) := by decide +kernel
theorem dX1_addLine_10 : decode cX1_addLine 10 = .ok (.getfield 15, 3) := by decide +kernel
theorem dX1_addLine_13 : decode cX1_addLine 13 = .ok (.aload_n 0, 1) := by decide +kernel
theorem dX1_addLine_14 : decode cX1_addLine 14 = .ok (.getfield 51, 3) := by decide +kernel
theorem dX1_addLine_17 : decode cX1_addLine 17 = .ok (.iload_n 1, 1) := by decide +kernel
theorem dX1_addLine_18 : decode cX1_addLine 18 = .ok (.iastore, 1) := by decide +kernel
theorem dX1_addLine_19 : decode cX1_addLine 19 = .ok (.aload_n 0, 1) := by decide +kernel
theorem dX1_addLine_20 : decode cX1_addLine 20 = .ok (.getfield 18, 3) := by decide +kernel
theorem dX1_addLine_23 : decode cX1_addLine 23 = .ok (.aload_n 0, 1) := by decide +kernel
theorem dX1_addLine_24 : decode cX1_addLine 24 = .ok (.getfield 51, 3) := by decide +kernel
theorem dX1_addLine_27 : decode cX1_addLine 27 = .ok (.iload_n 2, 1) := by decide +kernel
theorem dX1_addLine_28 : decode cX1_addLine 28 = .ok (.iastore, 1) := by decide +kernel
theorem dX1_addLine_29 : decode cX1_addLine 29 = .ok (.aload_n 0, 1) := by decide +kernel
theorem dX1_addLine_30 : decode cX1_addLine 30 = .ok (.getfield 21, 3) := by decide +kernel
theorem dX1_addLine_33 : decode cX1_addLine 33 = .ok (.aload_n 0, 1) := by decide +kernel
theorem dX1_addLine_34 : decode cX1_addLine 34 = .ok (.getfield 51, 3) := by decide +kernel
theorem dX1_addLine_37 : decode cX1_addLine 37 = .ok (.iload_n 3, 1) := by decide +kernel
theorem dX1_addLine_38 : decode cX1_addLine 38 = .ok (.iastore, 1) := by decide +kernel
theorem dX1_addLine_39 : decode cX1_addLine 39 = .ok (.aload_n 0, 1) := by decide +kernel
theorem dX1_addLine_40 : decode cX1_addLine 40 = .ok (.dup, 1) := by decide +kernel
theorem dX1_addLine_41 : decode cX1_addLine 41 = .ok (.getfield 51, 3) := by decide +kernel
theorem dX1_addLine_44 : decode cX1_addLine 44 = .ok (.iconst 1, 1) := by decide +kernel
theorem dX1_addLine_45 : decode cX1_addLine 45 = .ok (.iadd, 1) := by decide +kernel
theorem dX1_addLine_46 : decode cX1_addLine 46 = .ok (.putfield 51, 3) := by decide +kernel
theorem dX1_addLine_49 : decode cX1_addLine 49 = .ok (.return_, 1) := by decide +kernel
theorem dX1_addRight_0 : decode cX1_addRight 0 = .ok (.aload_n 0, 1) := by decide +kernel
theorem dX1_addRight_1 : decode cX1_addRight 1 = .ok (.getfield 55, 3) := by decide +kernel
theorem dX1_addRight_4 : decode cX1_addRight 4 = .ok (.bipush 8, 2) := by decide +kernel
theorem dX1_addRight_6 : decode cX1_addRight 6 = .ok (.if_icmp .ge 54, 3) := by decide +kernel
theorem dX1_addRight_9 : decode cX1_addRight 9 = .ok (.aload_n 0, 1) := by decide +kernel
theorem dX1_addRight_10 : decode cX1_addRight 10 = .ok (.getfield 27, 3) := by decide +kernel
theorem dX1_addRight_13 : decode cX1_addRight 13 = .ok (.aload_n 0, 1) := by decide +kernel
theorem dX1_addRight_14 : decode cX1_addRight 14 = .ok (.getfield 55, 3) := by decide +kernel
theorem dX1_addRight_17 : decode cX1_addRight 17 = .ok (.iload_n 1, 1) := by decide +kernel
theorem dX1_addRight_18 : decode cX1_addRight 18 = .ok (.iastore, 1) := by decide +kernel
theorem dX1_addRight_19 : decode cX1_addRight 19 = .ok (.aload_n 0, 1) := by decide +kernel
theorem dX1_addRight_20 : decode cX1_addRight 20 = .ok (.getfield 30, 3) := by decide +kernel
theorem dX1_addRight_23 : decode cX1_addRight 23 = .ok (.aload_n 0, 1) := by decide +kernel
theorem dX1_addRight_24 : decode cX1_addRight 24 = .ok (.getfield 55, 3) := by decide +kernel
theorem dX1_addRight_27 : decode cX1_addRight 27 = .ok (.iload_n 2, 1) := by decide +kernel
theorem dX1_addRight_28 : decode cX1_addRight 28 = .ok (.iastore, 1) := by decide +kernel
theorem dX1_addRight_29 : decode cX1_addRight 29 = .ok (.aload_n 0, 1) := by decide +kernel
theorem dX1_addRight_30 : decode cX1_addRight 30 = .ok (.getfield 33, 3) := by decide +kernel
theorem dX1_addRight_33 : decode cX1_addRight 33 = .ok (.aload_n 0, 1) := by decide +kernel
theorem dX1_addRight_34 : decode cX1_addRight 34 = .ok (.getfield 55, 3) := by decide +kernel
theorem dX1_addRight_37 : decode cX1_addRight 37 = .ok (.iload_n 3, 1) := by decide +kernel
theorem dX1_addRight_38 : decode cX1_addRight 38 = .ok (.iastore, 1) := by decide +kernel
theorem dX1_addRight_39 : decode cX1_addRight 39 = .ok (.aload_n 0, 1) := by decide +kernel
theorem dX1_addRight_40 : decode cX1_addRight 40 = .ok (.getfield 36, 3) := by decide +kernel
theorem dX1_addRight_43 : decode cX1_addRight 43 = .ok (.aload_n 0, 1) := by decide +kernel
theorem dX1_addRight_44 : decode cX1_addRight 44 = .ok (.getfield 55, 3) := by decide +kernel
theorem dX1_addRight_47 : decode cX1_addRight 47 = .ok (.iload 4, 2) := by decide +kernel
theorem dX1_addRight_49 : decode cX1_addRight 49 = .ok (.iastore, 1) := by decide +kernel
theorem dX1_addRight_50 : decode cX1_addRight 50 = .ok (.aload_n 0, 1) := by decide +kernel
theorem dX1_addRight_51 : decode cX1_addRight 51 = .ok (.dup, 1) := by decide +kernel
theorem dX1_addRight_52 : decode cX1_addRight 52 = .ok (.getfield 55, 3) := by decide +kernel
theorem dX1_addRight_55 : decode cX1_addRight 55 = .ok (.iconst 1, 1) := by decide +kernel
theorem dX1_addRight_56 : decode cX1_addRight 56 = .ok (.iadd, 1) := by decide +kernel
theorem dX1_addRight_57 : decode cX1_addRight 57 = .ok (.putfield 55, 3) := by decide +kernel
theorem dX1_addRight_60 : decode cX1_addRight 60 = .ok (.return_, 1) := by decide +kernel
theorem dX1_addPiece_0 : decode cX1_addPiece 0 = .ok (.aload_n 0, 1) := by decide +kernel
theorem dX1_addPiece_1 : decode cX1_addPiece 1 = .ok (.getfield 58, 3) := by decide +kernel
theorem dX1_addPiece_4 : decode cX1_addPiece 4 = .ok (.bipush 10, 2) := by decide +kernel
theorem dX1_addPiece_6 : decode cX1_addPiece 6 = .ok (.if_icmp .ge 54, 3) := by decide +kernel
theorem dX1_addPiece_9 : decode cX1_addPiece 9 = .ok (.aload_n 0, 1) := by decide +kernel
theorem dX1_addPiece_10 : decode cX1_addPiece 10 = .ok (.getfield 39, 3) := by decide +kernel
theorem dX1_addPiece_13 : decode cX1_addPiece 13 = .ok (.aload_n 0, 1) := by decide +kernel
theorem dX1_addPiece_14 : decode cX1_addPiece 14 = .ok (.getfield 58, 3) := by decide +kernel
theorem dX1_addPiece_17 : decode cX1_addPiece 17 = .ok (.iload_n 1, 1) := by decide +kernel
theorem dX1_addPiece_18 : decode cX1_addPiece 18 = .ok (.iastore, 1) := by decide +kernel
theorem dX1_addPiece_19 : decode cX1_addPiece 19 = .ok (.aload_n 0, 1) := by decide +kernel
theorem dX1_addPiece_20 : decode cX1_addPiece 20 = .ok (.getfield 42, 3) := by decide +kernel
theorem dX1_addPiece_23 : decode cX1_addPiece 23 = .ok (.aload_n 0, 1) := by decide +kernel
theorem dX1_addPiece_24 : decode cX1_addPiece 24 = .ok (.getfield 58, 3) := by decide +kernel
theorem dX1_addPiece_27 : decode cX1_addPiece 27 = .ok (.iload_n 2, 1) := by decide +kernel
theorem dX1_addPiece_28 : decode cX1_addPiece 28 = .ok (.iastore, 1) := by decide +kernel
theorem dX1_addPiece_29 : decode cX1_addPiece 29 = .ok (.aload_n 0, 1) := by decide +kernel
theorem dX1_addPiece_30 : decode cX1_addPiece 30 = .ok (.getfield 45, 3) := by decide +kernel
theorem dX1_addPiece_33 : decode cX1_addPiece 33 = .ok (.aload_n 0, 1) := by decide +kernel
theorem dX1_addPiece_34 : decode cX1_addPiece 34 = .ok (.getfield 58, 3) := by decide +kernel
theorem dX1_addPiece_37 : decode cX1_addPiece 37 = .ok (.iload_n 3, 1) := by decide +kernel
theorem dX1_addPiece_38 : decode cX1_addPiece 38 = .ok (.iastore, 1) := by decide +kernel
theorem dX1_addPiece_39 : decode cX1_addPiece 39 = .ok (.aload_n 0, 1) := by decide +kernel
theorem dX1_addPiece_40 : decode cX1_addPiece 40 = .ok (.getfield 48, 3) := by decide +kernel
theorem dX1_addPiece_43 : decode cX1_addPiece 43 = .ok (.aload_n 0, 1) := by decide +kernel
theorem dX1_addPiece_44 : decode cX1_addPiece 44 = .ok (.getfield 58, 3) := by decide +kernel
theorem dX1_addPiece_47 : decode cX1_addPiece 47 = .ok (.iload 4, 2) := by decide +kernel
theorem dX1_addPiece_49 : decode cX1_addPiece 49 = .ok (.iastore, 1) := by decide +kernel
theorem dX1_addPiece_50 : decode cX1_addPiece 50 = .ok (.aload_n 0, 1) := by decide +kernel
theorem dX1_addPiece_51 : decode cX1_addPiece 51 = .ok (.dup, 1) := by decide +kernel
theorem dX1_addPiece_52 : decode cX1_addPiece 52 = .ok (.getfield 58, 3) := by decide +kernel
theorem dX1_addPiece_55 : decode cX1_addPiece 55 = .ok (.iconst 1, 1) := by decide +kernel
theorem dX1_addPiece_56 : decode cX1_addPiece 56 = .ok (.iadd, 1) := by decide +kernel
theorem dX1_addPiece_57 : decode cX1_addPiece 57 = .ok (.putfield 58, 3) := by decide +kernel
theorem dX1_addPiece_60 : decode cX1_addPiece 60 = .ok (.return_, 1) := by decide +kernel
theorem dX1_hasLineAt_0 : decode cX1_hasLineAt 0 = .ok (.iconst 0, 1) := by decide +kernel
theorem dX1_hasLineAt_1 : decode cX1_hasLineAt 1 = .ok (.istore_n 3, 1) := by decide +kernel
theorem dX1_hasLineAt_2 : decode cX1_hasLineAt 2 = .ok (.iload_n 3, 1) := by decide +kernel
theorem dX1_hasLineAt_3 : decode cX1_hasLineAt 3 = .ok (.aload_n 0, 1) := by decide +kernel
theorem dX1_hasLineAt_4 : decode cX1_hasLineAt 4 = .ok (.getfield 51, 3) := by decide +kernel
theorem dX1_hasLineAt_7 : decode cX1_hasLineAt 7 = .ok (.if_icmp .ge 31, 3) := by decide +kernel
theorem dX1_hasLineAt_10 : decode cX1_hasLineAt 10 = .ok (.aload_n 0, 1) := by decide +kernel
theorem dX1_hasLineAt_11 : decode cX1_hasLineAt 11 = .ok (.getfield 15, 3) := by decide +kernel
theorem dX1_hasLineAt_14 : decode cX1_hasLineAt 14 = .ok (.iload_n 3, 1) := by decide +kernel
theorem dX1_hasLineAt_15 : decode cX1_hasLineAt 15 = .ok (.iaload, 1) := by decide +kernel
theorem dX1_hasLineAt_16 : decode cX1_hasLineAt 16 = .ok (.iload_n 1, 1) := by decide +kernel
theorem dX1_hasLineAt_17 : decode cX1_hasLineAt 17 = .ok (.if_icmp .ne 15, 3) := by decide +kernel
theorem dX1_hasLineAt_20 : decode cX1_hasLineAt 20 = .ok (.aload_n 0, 1) := by decide +kernel
theorem dX1_hasLineAt_21 : decode cX1_hasLineAt 21 = .ok (.getfield 18, 3) := by decide +kernel
theorem dX1_hasLineAt_24 : decode cX1_hasLineAt 24 = .ok (.iload_n 3, 1) := by decide +kernel
theorem dX1_hasLineAt_25 : decode cX1_hasLineAt 25 = .ok (.iaload, 1) := by decide +kernel
theorem dX1_hasLineAt_26 : decode cX1_hasLineAt 26 = .ok (.iload_n 2, 1) := by decide +kernel
theorem dX1_hasLineAt_27 : decode cX1_hasLineAt 27 = .ok (.if_icmp .ne 5, 3) := by decide +kernel
theorem dX1_hasLineAt_30 : decode cX1_hasLineAt 30 = .ok (.iconst 1, 1) := by decide +kernel
theorem dX1_hasLineAt_31 : decode cX1_hasLineAt 31 = .ok (.ireturn, 1) := by decide +kernel
theorem dX1_hasLineAt_32 : decode cX1_hasLineAt 32 = .ok (.iinc 3 1, 3) := by decide +kernel
theorem dX1_hasLineAt_35 : decode cX1_hasLineAt 35 = .ok (.goto (-33), 3) := by decide +kernel
theorem dX1_hasLineAt_38 : decode cX1_hasLineAt 38 = .ok (.iconst 0, 1) := by decide +kernel
theorem dX1_hasLineAt_39 : decode cX1_hasLineAt 39 = .ok (.ireturn, 1) := by decide +kernel
theorem dX1_findLinesBelow_0 : decode cX1_findLinesBelow 0 = .ok (.iconst 0, 1) := by decide +kernel
theorem dX1_findLinesBelow_1 : decode cX1_findLinesBelow 1 = .ok (.istore_n 1, 1) := by decide +kernel
theorem dX1_findLinesBelow_2 : decode cX1_findLinesBelow 2 = .ok (.iload_n 1, 1) := by decide +kernel
theorem dX1_findLinesBelow_3 : decode cX1_findLinesBelow 3 = .ok (.aload_n 0, 1) := by decide +kernel
theorem dX1_findLinesBelow_4 : decode cX1_findLinesBelow 4 = .ok (.getfield 51, 3) := by decide +kernel
theorem dX1_findLinesBelow_7 : decode cX1_findLinesBelow 7 = .ok (.if_icmp .ge 20, 3) := by decide +kernel
theorem dX1_findLinesBelow_10 : decode cX1_findLinesBelow 10 = .ok (.aload_n 0, 1) := by decide +kernel
theorem dX1_findLinesBelow_11 : decode cX1_findLinesBelow 11 = .ok (.getfield 24, 3) := by decide +kernel
theorem dX1_findLinesBelow_14 : decode cX1_findLinesBelow 14 = .ok (.iload_n 1, 1) := by decide +kernel
theorem dX1_findLinesBelow_15 : decode cX1_findLinesBelow 15 = .ok (.aload_n 0, 1) := by decide +kernel
theorem dX1_findLinesBelow_16 : decode cX1_findLinesBelow 16 = .ok (.iload_n 1, 1) := by decide +kernel
theorem dX1_findLinesBelow_17 : decode cX1_findLinesBelow 17 = .ok (.invokevirtual 61, 3) := by decide +kernel
theorem dX1_findLinesBelow_20 : decode cX1_findLinesBelow 20 = .ok (.iastore, 1) := by decide +kernel
theorem dX1_findLinesBelow_21 : decode cX1_findLinesBelow 21 = .ok (.iinc 1 1, 3) := by decide +kernel
theorem dX1_findLinesBelow_24 : decode cX1_findLinesBelow 24 = .ok (.goto (-22), 3) := by decide +kernel
theorem dX1_findLinesBelow_27 : decode cX1_findLinesBelow 27 = .ok (.return_, 1) := by decide +kernel
theorem dX1_nextBelow_0 : decode cX1_nextBelow 0 = .ok (.iconst (-1), 1) := by decide +kernel
theorem dX1_nextBelow_1 : decode cX1_nextBelow 1 = .ok (.istore_n 2, 1) := by decide +kernel
theorem dX1_nextBelow_2 : decode cX1_nextBelow 2 = .ok (.iconst 0, 1) := by decide +kernel
theorem dX1_nextBelow_3 : decode cX1_nextBelow 3 = .ok (.istore_n 3, 1) := by decide +kernel
theorem dX1_nextBelow_4 : decode cX1_nextBelow 4 = .ok (.iload_n 3, 1) := by decide +kernel
theorem dX1_nextBelow_5 : decode cX1_nextBelow 5 = .ok (.aload_n 0, 1) := by decide +kernel
theorem dX1_nextBelow_6 : decode cX1_nextBelow 6 = .ok (.getfield 51, 3) := by decide +kernel
theorem dX1_nextBelow_9 : decode cX1_nextBelow 9 = .ok (.if_icmp .ge 60, 3) := by decide +kernel
theorem dX1_nextBelow_12 : decode cX1_nextBelow 12 = .ok (.aload_n 0, 1) := by decide +kernel
theorem dX1_nextBelow_13 : decode cX1_nextBelow 13 = .ok (.getfield 18, 3) := by decide +kernel
theorem dX1_nextBelow_16 : decode cX1_nextBelow 16 = .ok (.iload_n 3, 1) := by decide +kernel
theorem dX1_nextBelow_17 : decode cX1_nextBelow 17 = .ok (.iaload, 1) := by decide +kernel
theorem dX1_nextBelow_18 : decode cX1_nextBelow 18 = .ok (.aload_n 0, 1) := by decide +kernel
theorem dX1_nextBelow_19 : decode cX1_nextBelow 19 = .ok (.getfield 18, 3) := by decide +kernel
theorem dX1_nextBelow_22 : decode cX1_nextBelow 22 = .ok (.iload_n 1, 1) := by decide +kernel
theorem dX1_nextBelow_23 : decode cX1_nextBelow 23 = .ok (.iaload, 1) := by decide +kernel
theorem dX1_nextBelow_24 : decode cX1_nextBelow 24 = .ok (.if_icmp .ne 39, 3) := by decide +kernel
theorem dX1_nextBelow_27 : decode cX1_nextBelow 27 = .ok (.aload_n 0, 1) := by decide +kernel
theorem dX1_nextBelow_28 : decode cX1_nextBelow 28 = .ok (.getfield 15, 3) := by decide +kernel
theorem dX1_nextBelow_31 : decode cX1_nextBelow 31 = .ok (.iload_n 3, 1) := by decide +kernel
theorem dX1_nextBelow_32 : decode cX1_nextBelow 32 = .ok (.iaload, 1) := by decide +kernel
theorem dX1_nextBelow_33 : decode cX1_nextBelow 33 = .ok (.aload_n 0, 1) := by decide +kernel
theorem dX1_nextBelow_34 : decode cX1_nextBelow 34 = .ok (.getfield 15, 3) := by decide +kernel
theorem dX1_nextBelow_37 : decode cX1_nextBelow 37 = .ok (.iload_n 1, 1) := by decide +kernel
theorem dX1_nextBelow_38 : decode cX1_nextBelow 38 = .ok (.iaload, 1) := by decide +kernel
theorem dX1_nextBelow_39 : decode cX1_nextBelow 39 = .ok (.if_icmp .ge 24, 3) := by decide +kernel
theorem dX1_nextBelow_42 : decode cX1_nextBelow 42 = .ok (.iload_n 2, 1) := by decide +kernel
theorem dX1_nextBelow_43 : decode cX1_nextBelow 43 = .ok (.ifCond .lt 18, 3) := by decide +kernel
theorem dX1_nextBelow_46 : decode cX1_nextBelow 46 = .ok (.aload_n 0, 1) := by decide +kernel
theorem dX1_nextBelow_47 : decode cX1_nextBelow 47 = .ok (.getfield 15, 3) := by decide +kernel
theorem dX1_nextBelow_50 : decode cX1_nextBelow 50 = .ok (.iload_n 3, 1) := by decide +kernel
theorem dX1_nextBelow_51 : decode cX1_nextBelow 51 = .ok (.iaload, 1) := by decide +kernel
theorem dX1_nextBelow_52 : decode cX1_nextBelow 52 = .ok (.aload_n 0, 1) := by decide +kernel
theorem dX1_nextBelow_53 : decode cX1_nextBelow 53 = .ok (.getfield 15, 3) := by decide +kernel
theorem dX1_nextBelow_56 : decode cX1_nextBelow 56 = .ok (.iload_n 2, 1) := by decide +kernel
theorem dX1_nextBelow_57 : decode cX1_nextBelow 57 = .ok (.iaload, 1) := by decide +kernel
theorem dX1_nextBelow_58 : decode cX1_nextBelow 58 = .ok (.if_icmp .le 5, 3) := by decide +kernel
theorem dX1_nextBelow_61 : decode cX1_nextBelow 61 = .ok (.iload_n 3, 1) := by decide +kernel
theorem dX1_nextBelow_62 : decode cX1_nextBelow 62 = .ok (.istore_n 2, 1) := by decide +kernel
theorem dX1_nextBelow_63 : decode cX1_nextBelow 63 = .ok (.iinc 3 1, 3) := by decide +kernel
theorem dX1_nextBelow_66 : decode cX1_nextBelow 66 = .ok (.goto (-62), 3) := by decide +kernel
theorem dX1_nextBelow_69 : decode cX1_nextBelow 69 = .ok (.iload_n 2, 1) := by decide +kernel
theorem dX1_nextBelow_70 : decode cX1_nextBelow 70 = .ok (.ireturn, 1) := by decide +kernel
theorem dX1_hasSun_0 : decode cX1_hasSun 0 = .ok (.aload_n 0, 1) := by decide +kernel
theorem dX1_hasSun_1 : decode cX1_hasSun 1 = .ok (.getfield 15, 3) := by decide +kernel
theorem dX1_hasSun_4 : decode cX1_hasSun 4 = .ok (.iload_n 1, 1) := by decide +kernel
theorem dX1_hasSun_5 : decode cX1_hasSun 5 = .ok (.iaload, 1) := by decide +kernel
theorem dX1_hasSun_6 : decode cX1_hasSun 6 = .ok (.aload_n 0, 1) := by decide +kernel
theorem dX1_hasSun_7 : decode cX1_hasSun 7 = .ok (.getfield 9, 3) := by decide +kernel
theorem dX1_hasSun_10 : decode cX1_hasSun 10 = .ok (.iload_n 2, 1) := by decide +kernel
theorem dX1_hasSun_11 : decode cX1_hasSun 11 = .ok (.iaload, 1) := by decide +kernel
theorem dX1_hasSun_12 : decode cX1_hasSun 12 = .ok (.bipush 10, 2) := by decide +kernel
theorem dX1_hasSun_14 : decode cX1_hasSun 14 = .ok (.idiv, 1) := by decide +kernel
theorem dX1_hasSun_15 : decode cX1_hasSun 15 = .ok (.iload_n 3, 1) := by decide +kernel
theorem dX1_hasSun_16 : decode cX1_hasSun 16 = .ok (.iadd, 1) := by decide +kernel
theorem dX1_hasSun_17 : decode cX1_hasSun 17 = .ok (.if_icmp .lt 7, 3) := by decide +kernel
theorem dX1_hasSun_20 : decode cX1_hasSun 20 = .ok (.iconst 1, 1) := by decide +kernel
theorem dX1_hasSun_21 : decode cX1_hasSun 21 = .ok (.goto 4, 3) := by decide +kernel
theorem dX1_hasSun_24 : decode cX1_hasSun 24 = .ok (.iconst 0, 1) := by decide +kernel
theorem dX1_hasSun_25 : decode cX1_hasSun 25 = .ok (.ireturn, 1) := by decide +kernel
theorem dX1_sunnyQuarters_0 : decode cX1_sunnyQuarters 0 = .ok (.iconst 0, 1) := by decide +kernel
theorem dX1_sunnyQuarters_1 : decode cX1_sunnyQuarters 1 = .ok (.istore 5, 2) := by decide +kernel
theorem dX1_sunnyQuarters_3 : decode cX1_sunnyQuarters 3 = .ok (.iload_n 2, 1) := by decide +kernel
theorem dX1_sunnyQuarters_4 : decode cX1_sunnyQuarters 4 = .ok (.istore 6, 2) := by decide +kernel
theorem dX1_sunnyQuarters_6 : decode cX1_sunnyQuarters 6 = .ok (.iload 6, 2) := by decide +kernel
theorem dX1_sunnyQuarters_8 : decode cX1_sunnyQuarters 8 = .ok (.iload_n 3, 1) := by decide +kernel
theorem dX1_sunnyQuarters_9 : decode cX1_sunnyQuarters 9 = .ok (.if_icmp .gt 38, 3) := by decide +kernel
theorem dX1_sunnyQuarters_12 : decode cX1_sunnyQuarters 12 = .ok (.iload 6, 2) := by decide +kernel
theorem dX1_sunnyQuarters_14 : decode cX1_sunnyQuarters 14 = .ok (.bipush 24, 2) := by decide +kernel
theorem dX1_sunnyQuarters_16 : decode cX1_sunnyQuarters 16 = .ok (.if_icmp .ge 31, 3) := by decide +kernel
theorem dX1_sunnyQuarters_19 : decode cX1_sunnyQuarters 19 = .ok (.iload 5, 2) := by decide +kernel
theorem dX1_sunnyQuarters_21 : decode cX1_sunnyQuarters 21 = .ok (.aload_n 0, 1) := by decide +kernel
theorem dX1_sunnyQuarters_22 : decode cX1_sunnyQuarters 22 = .ok (.iload_n 1, 1) := by decide +kernel
theorem dX1_sunnyQuarters_23 : decode cX1_sunnyQuarters 23 = .ok (.iload 6, 2) := by decide +kernel
theorem dX1_sunnyQuarters_25 : decode cX1_sunnyQuarters 25 = .ok (.iload 4, 2) := by decide +kernel
theorem dX1_sunnyQuarters_27 : decode cX1_sunnyQuarters 27 = .ok (.invokevirtual 65, 3) := by decide +kernel
theorem dX1_sunnyQuarters_30 : decode cX1_sunnyQuarters 30 = .ok (.ifCond .eq 7, 3) := by decide +kernel
theorem dX1_sunnyQuarters_33 : decode cX1_sunnyQuarters 33 = .ok (.iconst 1, 1) := by decide +kernel
theorem dX1_sunnyQuarters_34 : decode cX1_sunnyQuarters 34 = .ok (.goto 4, 3) := by decide +kernel
theorem dX1_sunnyQuarters_37 : decode cX1_sunnyQuarters 37 = .ok (.iconst 0, 1) := by decide +kernel
theorem dX1_sunnyQuarters_38 : decode cX1_sunnyQuarters 38 = .ok (.iadd, 1) := by decide +kernel
theorem dX1_sunnyQuarters_39 : decode cX1_sunnyQuarters 39 = .ok (.istore 5, 2) := by decide +kernel
theorem dX1_sunnyQuarters_41 : decode cX1_sunnyQuarters 41 = .ok (.iinc 6 1, 3) := by decide +kernel
theorem dX1_sunnyQuarters_44 : decode cX1_sunnyQuarters 44 = .ok (.goto (-38), 3) := by decide +kernel
theorem dX1_sunnyQuarters_47 : decode cX1_sunnyQuarters 47 = .ok (.iload 5, 2) := by decide +kernel
theorem dX1_sunnyQuarters_49 : decode cX1_sunnyQuarters 49 = .ok (.ireturn, 1) := by decide +kernel
theorem dX1_drying_0 : decode cX1_drying 0 = .ok (.aload_n 0, 1) := by decide +kernel
theorem dX1_drying_1 : decode cX1_drying 1 = .ok (.getfield 9, 3) := by decide +kernel
theorem dX1_drying_4 : decode cX1_drying 4 = .ok (.iload_n 3, 1) := by decide +kernel
theorem dX1_drying_5 : decode cX1_drying 5 = .ok (.iaload, 1) := by decide +kernel
theorem dX1_drying_6 : decode cX1_drying 6 = .ok (.bipush 10, 2) := by decide +kernel
theorem dX1_drying_8 : decode cX1_drying 8 = .ok (.irem, 1) := by decide +kernel
theorem dX1_drying_9 : decode cX1_drying 9 = .ok (.istore 4, 2) := by decide +kernel
theorem dX1_drying_11 : decode cX1_drying 11 = .ok (.aload_n 0, 1) := by decide +kernel
theorem dX1_drying_12 : decode cX1_drying 12 = .ok (.iload_n 2, 1) := by decide +kernel
theorem dX1_drying_13 : decode cX1_drying 13 = .ok (.iload_n 3, 1) := by decide +kernel
theorem dX1_drying_14 : decode cX1_drying 14 = .ok (.iconst 0, 1) := by decide +kernel
theorem dX1_drying_15 : decode cX1_drying 15 = .ok (.invokevirtual 65, 3) := by decide +kernel
theorem dX1_drying_18 : decode cX1_drying 18 = .ok (.ifCond .eq 10, 3) := by decide +kernel
theorem dX1_drying_21 : decode cX1_drying 21 = .ok (.iload 4, 2) := by decide +kernel
theorem dX1_drying_23 : decode cX1_drying 23 = .ok (.iconst 2, 1) := by decide +kernel
theorem dX1_drying_24 : decode cX1_drying 24 = .ok (.iadd, 1) := by decide +kernel
theorem dX1_drying_25 : decode cX1_drying 25 = .ok (.goto 5, 3) := by decide +kernel
theorem dX1_drying_28 : decode cX1_drying 28 = .ok (.iload 4, 2) := by decide +kernel
theorem dX1_drying_30 : decode cX1_drying 30 = .ok (.istore 5, 2) := by decide +kernel
theorem dX1_drying_32 : decode cX1_drying 32 = .ok (.aload_n 0, 1) := by decide +kernel
theorem dX1_drying_33 : decode cX1_drying 33 = .ok (.getfield 39, 3) := by decide +kernel
theorem dX1_drying_36 : decode cX1_drying 36 = .ok (.iload_n 1, 1) := by decide +kernel
theorem dX1_drying_37 : decode cX1_drying 37 = .ok (.iaload, 1) := by decide +kernel
theorem dX1_drying_38 : decode cX1_drying 38 = .ok (.iconst 3, 1) := by decide +kernel
theorem dX1_drying_39 : decode cX1_drying 39 = .ok (.if_icmp .eq 13, 3) := by decide +kernel
theorem dX1_drying_42 : decode cX1_drying 42 = .ok (.aload_n 0, 1) := by decide +kernel
theorem dX1_drying_43 : decode cX1_drying 43 = .ok (.getfield 39, 3) := by decide +kernel
theorem dX1_drying_46 : decode cX1_drying 46 = .ok (.iload_n 1, 1) := by decide +kernel
theorem dX1_drying_47 : decode cX1_drying 47 = .ok (.iaload, 1) := by decide +kernel
theorem dX1_drying_48 : decode cX1_drying 48 = .ok (.iconst 5, 1) := by decide +kernel
theorem dX1_drying_49 : decode cX1_drying 49 = .ok (.if_icmp .ne 7, 3) := by decide +kernel
theorem dX1_drying_52 : decode cX1_drying 52 = .ok (.iconst 1, 1) := by decide +kernel
theorem dX1_drying_53 : decode cX1_drying 53 = .ok (.goto 4, 3) := by decide +kernel
theorem dX1_drying_56 : decode cX1_drying 56 = .ok (.iconst 0, 1) := by decide +kernel
theorem dX1_drying_57 : decode cX1_drying 57 = .ok (.istore 6, 2) := by decide +kernel
theorem dX1_drying_59 : decode cX1_drying 59 = .ok (.iload 6, 2) := by decide +kernel
theorem dX1_drying_61 : decode cX1_drying 61 = .ok (.ifCond .eq 14, 3) := by decide +kernel
theorem dX1_drying_64 : decode cX1_drying 64 = .ok (.iconst 0, 1) := by decide +kernel
theorem dX1_drying_65 : decode cX1_drying 65 = .ok (.iload 5, 2) := by decide +kernel
theorem dX1_drying_67 : decode cX1_drying 67 = .ok (.iconst 2, 1) := by decide +kernel
theorem dX1_drying_68 : decode cX1_drying 68 = .ok (.isub, 1) := by decide +kernel
theorem dX1_drying_69 : decode cX1_drying 69 = .ok (.invokestatic 69, 3) := by decide +kernel
theorem dX1_drying_72 : decode cX1_drying 72 = .ok (.goto 5, 3) := by decide +kernel
theorem dX1_drying_75 : decode cX1_drying 75 = .ok (.iload 5, 2) := by decide +kernel
theorem dX1_drying_77 : decode cX1_drying 77 = .ok (.ireturn, 1) := by decide +kernel
theorem dX1_takesStains_0 : decode cX1_takesStains 0 = .ok (.aload_n 0, 1) := by decide +kernel
theorem dX1_takesStains_1 : decode cX1_takesStains 1 = .ok (.getfield 39, 3) := by decide +kernel
theorem dX1_takesStains_4 : decode cX1_takesStains 4 = .ok (.iload_n 1, 1) := by decide +kernel
theorem dX1_takesStains_5 : decode cX1_takesStains 5 = .ok (.iaload, 1) := by decide +kernel
theorem dX1_takesStains_6 : decode cX1_takesStains 6 = .ok (.iconst 1, 1) := by decide +kernel
theorem dX1_takesStains_7 : decode cX1_takesStains 7 = .ok (.if_icmp .eq 17, 3) := by decide +kernel
theorem dX1_takesStains_10 : decode cX1_takesStains 10 = .ok (.aload_n 0, 1) := by decide +kernel
theorem dX1_takesStains_11 : decode cX1_takesStains 11 = .ok (.getfield 39, 3) := by decide +kernel
theorem dX1_takesStains_14 : decode cX1_takesStains 14 = .ok (.iload_n 1, 1) := by decide +kernel
theorem dX1_takesStains_15 : decode cX1_takesStains 15 = .ok (.iaload, 1) := by decide +kernel
theorem dX1_takesStains_16 : decode cX1_takesStains 16 = .ok (.iconst 2, 1) := by decide +kernel
theorem dX1_takesStains_17 : decode cX1_takesStains 17 = .ok (.if_icmp .eq 7, 3) := by decide +kernel
theorem dX1_takesStains_20 : decode cX1_takesStains 20 = .ok (.iconst 1, 1) := by decide +kernel
theorem dX1_takesStains_21 : decode cX1_takesStains 21 = .ok (.goto 4, 3) := by decide +kernel
theorem dX1_takesStains_24 : decode cX1_takesStains 24 = .ok (.iconst 0, 1) := by decide +kernel
theorem dX1_takesStains_25 : decode cX1_takesStains 25 = .ok (.ireturn, 1) := by decide +kernel
theorem dX1_holders_0 : decode cX1_holders 0 = .ok (.iconst 0, 1) := by decide +kernel
theorem dX1_holders_1 : decode cX1_holders 1 = .ok (.istore_n 3, 1) := by decide +kernel
theorem dX1_holders_2 : decode cX1_holders 2 = .ok (.iconst 0, 1) := by decide +kernel
theorem dX1_holders_3 : decode cX1_holders 3 = .ok (.istore 4, 2) := by decide +kernel
theorem dX1_holders_5 : decode cX1_holders 5 = .ok (.iload 4, 2) := by decide +kernel
theorem dX1_holders_7 : decode cX1_holders 7 = .ok (.aload_n 0, 1) := by decide +kernel
theorem dX1_holders_8 : decode cX1_holders 8 = .ok (.getfield 55, 3) := by decide +kernel
theorem dX1_holders_11 : decode cX1_holders 11 = .ok (.if_icmp .ge 53, 3) := by decide +kernel
theorem dX1_holders_14 : decode cX1_holders 14 = .ok (.aload_n 0, 1) := by decide +kernel
theorem dX1_holders_15 : decode cX1_holders 15 = .ok (.getfield 27, 3) := by decide +kernel
theorem dX1_holders_18 : decode cX1_holders 18 = .ok (.iload 4, 2) := by decide +kernel
theorem dX1_holders_20 : decode cX1_holders 20 = .ok (.iaload, 1) := by decide +kernel
theorem dX1_holders_21 : decode cX1_holders 21 = .ok (.iload_n 1, 1) := by decide +kernel
theorem dX1_holders_22 : decode cX1_holders 22 = .ok (.if_icmp .ne 36, 3) := by decide +kernel
theorem dX1_holders_25 : decode cX1_holders 25 = .ok (.iload_n 2, 1) := by decide +kernel
theorem dX1_holders_26 : decode cX1_holders 26 = .ok (.aload_n 0, 1) := by decide +kernel
theorem dX1_holders_27 : decode cX1_holders 27 = .ok (.getfield 30, 3) := by decide +kernel
theorem dX1_holders_30 : decode cX1_holders 30 = .ok (.iload 4, 2) := by decide +kernel
theorem dX1_holders_32 : decode cX1_holders 32 = .ok (.iaload, 1) := by decide +kernel
theorem dX1_holders_33 : decode cX1_holders 33 = .ok (.aload_n 0, 1) := by decide +kernel
theorem dX1_holders_34 : decode cX1_holders 34 = .ok (.getfield 33, 3) := by decide +kernel
theorem dX1_holders_37 : decode cX1_holders 37 = .ok (.iload 4, 2) := by decide +kernel
theorem dX1_holders_39 : decode cX1_holders 39 = .ok (.iaload, 1) := by decide +kernel
theorem dX1_holders_40 : decode cX1_holders 40 = .ok (.invokestatic 75, 3) := by decide +kernel
theorem dX1_holders_43 : decode cX1_holders 43 = .ok (.ifCond .eq 15, 3) := by decide +kernel
theorem dX1_holders_46 : decode cX1_holders 46 = .ok (.iload_n 3, 1) := by decide +kernel
theorem dX1_holders_47 : decode cX1_holders 47 = .ok (.iconst 1, 1) := by decide +kernel
theorem dX1_holders_48 : decode cX1_holders 48 = .ok (.aload_n 0, 1) := by decide +kernel
theorem dX1_holders_49 : decode cX1_holders 49 = .ok (.getfield 36, 3) := by decide +kernel
theorem dX1_holders_52 : decode cX1_holders 52 = .ok (.iload 4, 2) := by decide +kernel
theorem dX1_holders_54 : decode cX1_holders 54 = .ok (.iaload, 1) := by decide +kernel
theorem dX1_holders_55 : decode cX1_holders 55 = .ok (.ishl, 1) := by decide +kernel
theorem dX1_holders_56 : decode cX1_holders 56 = .ok (.ior, 1) := by decide +kernel
theorem dX1_holders_57 : decode cX1_holders 57 = .ok (.istore_n 3, 1) := by decide +kernel
theorem dX1_holders_58 : decode cX1_holders 58 = .ok (.iinc 4 1, 3) := by decide +kernel
theorem dX1_holders_61 : decode cX1_holders 61 = .ok (.goto (-56), 3) := by decide +kernel
theorem dX1_holders_64 : decode cX1_holders 64 = .ok (.iload_n 3, 1) := by decide +kernel
theorem dX1_holders_65 : decode cX1_holders 65 = .ok (.ireturn, 1) := by decide +kernel
theorem dX2_init_0 : decode cX2_init 0 = .ok (.aload_n 0, 1) := by decide +kernel
theorem dX2_init_1 : decode cX2_init 1 = .ok (.invokespecial 1, 3) := by decide +kernel
theorem dX2_init_4 : decode cX2_init 4 = .ok (.aload_n 0, 1) := by decide +kernel
theorem dX2_init_5 : decode cX2_init 5 = .ok (.iload_n 1, 1) := by decide +kernel
theorem dX2_init_6 : decode cX2_init 6 = .ok (.putfield 7, 3) := by decide +kernel
theorem dX2_init_9 : decode cX2_init 9 = .ok (.aload_n 0, 1) := by decide +kernel
theorem dX2_init_10 : decode cX2_init 10 = .ok (.iload_n 2, 1) := by decide +kernel
theorem dX2_init_11 : decode cX2_init 11 = .ok (.putfield 13, 3) := by decide +kernel
theorem dX2_init_14 : decode cX2_init 14 = .ok (.aload_n 0, 1) := by decide +kernel
theorem dX2_init_15 : decode cX2_init 15 = .ok (.iload_n 3, 1) := by decide +kernel
theorem dX2_init_16 : decode cX2_init 16 = .ok (.putfield 16, 3) := by decide +kernel
theorem dX2_init_19 : decode cX2_init 19 = .ok (.aload_n 0, 1) := by decide +kernel
theorem dX2_init_20 : decode cX2_init 20 = .ok (.aload 4, 2) := by decide +kernel
theorem dX2_init_22 : decode cX2_init 22 = .ok (.putfield 19, 3) := by decide +kernel
theorem dX2_init_25 : decode cX2_init 25 = .ok (.return_, 1) := by decide +kernel
theorem dX2_size_0 : decode cX2_size 0 = .ok (.aload_n 0, 1) := by decide +kernel
theorem dX2_size_1 : decode cX2_size 1 = .ok (.getfield 19, 3) := by decide +kernel
theorem dX2_size_4 : decode cX2_size 4 = .ok (.bipush 10, 2) := by decide +kernel
theorem dX2_size_6 : decode cX2_size 6 = .ok (.invokevirtual 23, 3) := by decide +kernel
theorem dX2_size_9 : decode cX2_size 9 = .ok (.aload_n 0, 1) := by decide +kernel
theorem dX2_size_10 : decode cX2_size 10 = .ok (.getfield 13, 3) := by decide +kernel
theorem dX2_size_13 : decode cX2_size 13 = .ok (.ireturn, 1) := by decide +kernel
theorem dX2_mark_0 : decode cX2_mark 0 = .ok (.aload_n 0, 1) := by decide +kernel
theorem dX2_mark_1 : decode cX2_mark 1 = .ok (.getfield 19, 3) := by decide +kernel
theorem dX2_mark_4 : decode cX2_mark 4 = .ok (.bipush 20, 2) := by decide +kernel
theorem dX2_mark_6 : decode cX2_mark 6 = .ok (.invokevirtual 23, 3) := by decide +kernel
theorem dX2_mark_9 : decode cX2_mark 9 = .ok (.aload_n 0, 1) := by decide +kernel
theorem dX2_mark_10 : decode cX2_mark 10 = .ok (.getfield 7, 3) := by decide +kernel
theorem dX2_mark_13 : decode cX2_mark 13 = .ok (.ireturn, 1) := by decide +kernel
theorem dX3_init_0 : decode cX3_init 0 = .ok (.aload_n 0, 1) := by decide +kernel
theorem dX3_init_1 : decode cX3_init 1 = .ok (.invokespecial 3, 3) := by decide +kernel
theorem dX3_init_4 : decode cX3_init 4 = .ok (.aload_n 0, 1) := by decide +kernel
theorem dX3_init_5 : decode cX3_init 5 = .ok (.sipush 500, 3) := by decide +kernel
theorem dX3_init_8 : decode cX3_init 8 = .ok (.newarray .byte, 2) := by decide +kernel
theorem dX3_init_10 : decode cX3_init 10 = .ok (.putfield 11, 3) := by decide +kernel
theorem dX3_init_13 : decode cX3_init 13 = .ok (.return_, 1) := by decide +kernel
theorem dX3_hasRoom_0 : decode cX3_hasRoom 0 = .ok (.iload_n 1, 1) := by decide +kernel
theorem dX3_hasRoom_1 : decode cX3_hasRoom 1 = .ok (.sipush 500, 3) := by decide +kernel
theorem dX3_hasRoom_4 : decode cX3_hasRoom 4 = .ok (.aload_n 0, 1) := by decide +kernel
theorem dX3_hasRoom_5 : decode cX3_hasRoom 5 = .ok (.getfield 15, 3) := by decide +kernel
theorem dX3_hasRoom_8 : decode cX3_hasRoom 8 = .ok (.isub, 1) := by decide +kernel
theorem dX3_hasRoom_9 : decode cX3_hasRoom 9 = .ok (.if_icmp .gt 7, 3) := by decide +kernel
theorem dX3_hasRoom_12 : decode cX3_hasRoom 12 = .ok (.iconst 1, 1) := by decide +kernel
theorem dX3_hasRoom_13 : decode cX3_hasRoom 13 = .ok (.goto 4, 3) := by decide +kernel
theorem dX3_hasRoom_16 : decode cX3_hasRoom 16 = .ok (.iconst 0, 1) := by decide +kernel
theorem dX3_hasRoom_17 : decode cX3_hasRoom 17 = .ok (.ireturn, 1) := by decide +kernel
theorem dX3_append_0 : decode cX3_append 0 = .ok (.iload_n 3, 1) := by decide +kernel
theorem dX3_append_1 : decode cX3_append 1 = .ok (.iconst 1, 1) := by decide +kernel
theorem dX3_append_2 : decode cX3_append 2 = .ok (.isub, 1) := by decide +kernel
theorem dX3_append_3 : decode cX3_append 3 = .ok (.istore 4, 2) := by decide +kernel
theorem dX3_append_5 : decode cX3_append 5 = .ok (.iload 4, 2) := by decide +kernel
theorem dX3_append_7 : decode cX3_append 7 = .ok (.ifCond .lt 47, 3) := by decide +kernel
theorem dX3_append_10 : decode cX3_append 10 = .ok (.aload_n 0, 1) := by decide +kernel
theorem dX3_append_11 : decode cX3_append 11 = .ok (.getfield 15, 3) := by decide +kernel
theorem dX3_append_14 : decode cX3_append 14 = .ok (.sipush 500, 3) := by decide +kernel
theorem dX3_append_17 : decode cX3_append 17 = .ok (.if_icmp .ge 37, 3) := by decide +kernel
theorem dX3_append_20 : decode cX3_append 20 = .ok (.aload_n 0, 1) := by decide +kernel
theorem dX3_append_21 : decode cX3_append 21 = .ok (.getfield 11, 3) := by decide +kernel
theorem dX3_append_24 : decode cX3_append 24 = .ok (.aload_n 0, 1) := by decide +kernel
theorem dX3_append_25 : decode cX3_append 25 = .ok (.getfield 15, 3) := by decide +kernel
theorem dX3_append_28 : decode cX3_append 28 = .ok (.lload_n 1, 1) := by decide +kernel
theorem dX3_append_29 : decode cX3_append 29 = .ok (.bipush 8, 2) := by decide +kernel
theorem dX3_append_31 : decode cX3_append 31 = .ok (.iload 4, 2) := by decide +kernel
theorem dX3_append_33 : decode cX3_append 33 = .ok (.imul, 1) := by decide +kernel
theorem dX3_append_34 : decode cX3_append 34 = .ok (.lshr, 1) := by decide +kernel
theorem dX3_append_35 : decode cX3_append 35 = .ok (.l2i, 1) := by decide +kernel
theorem dX3_append_36 : decode cX3_append 36 = .ok (.i2b, 1) := by decide +kernel
theorem dX3_append_37 : decode cX3_append 37 = .ok (.bastore, 1) := by decide +kernel
theorem dX3_append_38 : decode cX3_append 38 = .ok (.aload_n 0, 1) := by decide +kernel
theorem dX3_append_39 : decode cX3_append 39 = .ok (.dup, 1) := by decide +kernel
theorem dX3_append_40 : decode cX3_append 40 = .ok (.getfield 15, 3) := by decide +kernel
theorem dX3_append_43 : decode cX3_append 43 = .ok (.iconst 1, 1) := by decide +kernel
theorem dX3_append_44 : decode cX3_append 44 = .ok (.iadd, 1) := by decide +kernel
theorem dX3_append_45 : decode cX3_append 45 = .ok (.putfield 15, 3) := by decide +kernel
theorem dX3_append_48 : decode cX3_append 48 = .ok (.iinc 4 (-1), 3) := by decide +kernel
theorem dX3_append_51 : decode cX3_append 51 = .ok (.goto (-46), 3) := by decide +kernel
theorem dX3_append_54 : decode cX3_append 54 = .ok (.aload_n 0, 1) := by decide +kernel
theorem dX3_append_55 : decode cX3_append 55 = .ok (.getfield 15, 3) := by decide +kernel
theorem dX3_append_58 : decode cX3_append 58 = .ok (.ireturn, 1) := by decide +kernel
theorem dX3_readCourt_0 : decode cX3_readCourt 0 = .ok (.new 19, 3) := by decide +kernel
theorem dX3_readCourt_3 : decode cX3_readCourt 3 = .ok (.dup, 1) := by decide +kernel
theorem dX3_readCourt_4 : decode cX3_readCourt 4 = .ok (.invokespecial 21, 3) := by decide +kernel
theorem dX3_readCourt_7 : decode cX3_readCourt 7 = .ok (.astore_n 1, 1) := by decide +kernel
theorem dX3_readCourt_8 : decode cX3_readCourt 8 = .ok (.aload_n 0, 1) := by decide +kernel
theorem dX3_readCourt_9 : decode cX3_readCourt 9 = .ok (.iconst 0, 1) := by decide +kernel
theorem dX3_readCourt_10 : decode cX3_readCourt 10 = .ok (.putfield 22, 3) := by decide +kernel
theorem dX3_readCourt_13 : decode cX3_readCourt 13 = .ok (.aload_n 0, 1) := by decide +kernel
theorem dX3_readCourt_14 : decode cX3_readCourt 14 = .ok (.iconst 0, 1) := by decide +kernel
theorem dX3_readCourt_15 : decode cX3_readCourt 15 = .ok (.putfield 25, 3) := by decide +kernel
theorem dX3_readCourt_18 : decode cX3_readCourt 18 = .ok (.aload_n 0, 1) := by decide +kernel
theorem dX3_readCourt_19 : decode cX3_readCourt 19 = .ok (.iconst 0, 1) := by decide +kernel
theorem dX3_readCourt_20 : decode cX3_readCourt 20 = .ok (.putfield 28, 3) := by decide +kernel
theorem dX3_readCourt_23 : decode cX3_readCourt 23 = .ok (.aload_n 0, 1) := by decide +kernel
theorem dX3_readCourt_24 : decode cX3_readCourt 24 = .ok (.invokevirtual 31, 3) := by decide +kernel
theorem dX3_readCourt_27 : decode cX3_readCourt 27 = .ok (.aload_n 0, 1) := by decide +kernel
theorem dX3_readCourt_28 : decode cX3_readCourt 28 = .ok (.aload_n 1, 1) := by decide +kernel
theorem dX3_readCourt_29 : decode cX3_readCourt 29 = .ok (.invokevirtual 34, 3) := by decide +kernel
theorem dX3_readCourt_32 : decode cX3_readCourt 32 = .ok (.aload_n 0, 1) := by decide +kernel
theorem dX3_readCourt_33 : decode cX3_readCourt 33 = .ok (.aload_n 1, 1) := by decide +kernel
theorem dX3_readCourt_34 : decode cX3_readCourt 34 = .ok (.invokevirtual 38, 3) := by decide +kernel
theorem dX3_readCourt_37 : decode cX3_readCourt 37 = .ok (.aload_n 0, 1) := by decide +kernel
theorem dX3_readCourt_38 : decode cX3_readCourt 38 = .ok (.aload_n 1, 1) := by decide +kernel
theorem dX3_readCourt_39 : decode cX3_readCourt 39 = .ok (.invokevirtual 41, 3) := by decide +kernel
theorem dX3_readCourt_42 : decode cX3_readCourt 42 = .ok (.aload_n 0, 1) := by decide +kernel
theorem dX3_readCourt_43 : decode cX3_readCourt 43 = .ok (.aload_n 1, 1) := by decide +kernel
theorem dX3_readCourt_44 : decode cX3_readCourt 44 = .ok (.invokevirtual 44, 3) := by decide +kernel
theorem dX3_readCourt_47 : decode cX3_readCourt 47 = .ok (.aload_n 0, 1) := by decide +kernel
theorem dX3_readCourt_48 : decode cX3_readCourt 48 = .ok (.getfield 47, 3) := by decide +kernel
theorem dX3_readCourt_51 : decode cX3_readCourt 51 = .ok (.ifCond .eq 12, 3) := by decide +kernel
theorem dX3_readCourt_54 : decode cX3_readCourt 54 = .ok (.aload_n 0, 1) := by decide +kernel
theorem dX3_readCourt_55 : decode cX3_readCourt 55 = .ok (.aload_n 0, 1) := by decide +kernel
theorem dX3_readCourt_56 : decode cX3_readCourt 56 = .ok (.getfield 50, 3) := by decide +kernel
theorem dX3_readCourt_59 : decode cX3_readCourt 59 = .ok (.iconst 1, 1) := by decide +kernel
theorem dX3_readCourt_60 : decode cX3_readCourt 60 = .ok (.invokevirtual 53, 3) := by decide +kernel
theorem dX3_readCourt_63 : decode cX3_readCourt 63 = .ok (.aload_n 1, 1) := by decide +kernel
theorem dX3_readCourt_64 : decode cX3_readCourt 64 = .ok (.invokevirtual 57, 3) := by decide +kernel
theorem dX3_readCourt_67 : decode cX3_readCourt 67 = .ok (.aload_n 0, 1) := by decide +kernel
theorem dX3_readCourt_68 : decode cX3_readCourt 68 = .ok (.iconst 0, 1) := by decide +kernel
theorem dX3_readCourt_69 : decode cX3_readCourt 69 = .ok (.putfield 15, 3) := by decide +kernel
theorem dX3_readCourt_72 : decode cX3_readCourt 72 = .ok (.aload_n 1, 1) := by decide +kernel
theorem dX3_readCourt_73 : decode cX3_readCourt 73 = .ok (.areturn, 1) := by decide +kernel
theorem dX3_readDay_0 : decode cX3_readDay 0 = .ok (.aload_n 0, 1) := by decide +kernel
theorem dX3_readDay_1 : decode cX3_readDay 1 = .ok (.ldc 60, 2) := by decide +kernel
theorem dX3_readDay_3 : decode cX3_readDay 3 = .ok (.iconst 1, 1) := by decide +kernel
theorem dX3_readDay_4 : decode cX3_readDay 4 = .ok (.invokevirtual 62, 3) := by decide +kernel
theorem dX3_readDay_7 : decode cX3_readDay 7 = .ok (.iconst 0, 1) := by decide +kernel
theorem dX3_readDay_8 : decode cX3_readDay 8 = .ok (.istore_n 2, 1) := by decide +kernel
theorem dX3_readDay_9 : decode cX3_readDay 9 = .ok (.iload_n 2, 1) := by decide +kernel
theorem dX3_readDay_10 : decode cX3_readDay 10 = .ok (.bipush 24, 2) := by decide +kernel
theorem dX3_readDay_12 : decode cX3_readDay 12 = .ok (.if_icmp .ge 22, 3) := by decide +kernel
theorem dX3_readDay_15 : decode cX3_readDay 15 = .ok (.aload_n 1, 1) := by decide +kernel
theorem dX3_readDay_16 : decode cX3_readDay 16 = .ok (.getfield 66, 3) := by decide +kernel
theorem dX3_readDay_19 : decode cX3_readDay 19 = .ok (.iload_n 2, 1) := by decide +kernel
theorem dX3_readDay_20 : decode cX3_readDay 20 = .ok (.aload_n 0, 1) := by decide +kernel
theorem dX3_readDay_21 : decode cX3_readDay 21 = .ok (.iconst 0, 1) := by decide +kernel
theorem dX3_readDay_22 : decode cX3_readDay 22 = .ok (.bipush 99, 2) := by decide +kernel
theorem dX3_readDay_24 : decode cX3_readDay 24 = .ok (.invokevirtual 69, 3) := by decide +kernel
theorem dX3_readDay_27 : decode cX3_readDay 27 = .ok (.iastore, 1) := by decide +kernel
theorem dX3_readDay_28 : decode cX3_readDay 28 = .ok (.iinc 2 1, 3) := by decide +kernel
theorem dX3_readDay_31 : decode cX3_readDay 31 = .ok (.goto (-22), 3) := by decide +kernel
theorem dX3_readDay_34 : decode cX3_readDay 34 = .ok (.aload_n 0, 1) := by decide +kernel
theorem dX3_readDay_35 : decode cX3_readDay 35 = .ok (.invokevirtual 73, 3) := by decide +kernel
theorem dX3_readDay_38 : decode cX3_readDay 38 = .ok (.return_, 1) := by decide +kernel
theorem dX3_readLines_0 : decode cX3_readLines 0 = .ok (.aload_n 0, 1) := by decide +kernel
theorem dX3_readLines_1 : decode cX3_readLines 1 = .ok (.aload_n 1, 1) := by decide +kernel
theorem dX3_readLines_2 : decode cX3_readLines 2 = .ok (.invokevirtual 76, 3) := by decide +kernel
theorem dX3_readLines_5 : decode cX3_readLines 5 = .ok (.iconst 0, 1) := by decide +kernel
theorem dX3_readLines_6 : decode cX3_readLines 6 = .ok (.istore_n 2, 1) := by decide +kernel
theorem dX3_readLines_7 : decode cX3_readLines 7 = .ok (.iload_n 2, 1) := by decide +kernel
theorem dX3_readLines_8 : decode cX3_readLines 8 = .ok (.bipush 8, 2) := by decide +kernel
theorem dX3_readLines_10 : decode cX3_readLines 10 = .ok (.if_icmp .ge 23, 3) := by decide +kernel
theorem dX3_readLines_13 : decode cX3_readLines 13 = .ok (.aload_n 0, 1) := by decide +kernel
theorem dX3_readLines_14 : decode cX3_readLines 14 = .ok (.ldc 79, 2) := by decide +kernel
theorem dX3_readLines_16 : decode cX3_readLines 16 = .ok (.invokevirtual 81, 3) := by decide +kernel
theorem dX3_readLines_19 : decode cX3_readLines 19 = .ok (.ifCond .eq 14, 3) := by decide +kernel
theorem dX3_readLines_22 : decode cX3_readLines 22 = .ok (.aload_n 0, 1) := by decide +kernel
theorem dX3_readLines_23 : decode cX3_readLines 23 = .ok (.aload_n 1, 1) := by decide +kernel
theorem dX3_readLines_24 : decode cX3_readLines 24 = .ok (.invokevirtual 76, 3) := by decide +kernel
theorem dX3_readLines_27 : decode cX3_readLines 27 = .ok (.iinc 2 1, 3) := by decide +kernel
theorem dX3_readLines_30 : decode cX3_readLines 30 = .ok (.goto (-23), 3) := by decide +kernel
theorem dX3_readLines_33 : decode cX3_readLines 33 = .ok (.return_, 1) := by decide +kernel
theorem dX3_readLine_0 : decode cX3_readLine 0 = .ok (.aload_n 0, 1) := by decide +kernel
theorem dX3_readLine_1 : decode cX3_readLine 1 = .ok (.ldc 79, 2) := by decide +kernel
theorem dX3_readLine_3 : decode cX3_readLine 3 = .ok (.aload_n 1, 1) := by decide +kernel
theorem dX3_readLine_4 : decode cX3_readLine 4 = .ok (.getfield 85, 3) := by decide +kernel
theorem dX3_readLine_7 : decode cX3_readLine 7 = .ok (.bipush 8, 2) := by decide +kernel
theorem dX3_readLine_9 : decode cX3_readLine 9 = .ok (.if_icmp .ge 7, 3) := by decide +kernel
theorem dX3_readLine_12 : decode cX3_readLine 12 = .ok (.iconst 1, 1) := by decide +kernel
theorem dX3_readLine_13 : decode cX3_readLine 13 = .ok (.goto 4, 3) := by decide +kernel
theorem dX3_readLine_16 : decode cX3_readLine 16 = .ok (.iconst 0, 1) := by decide +kernel
theorem dX3_readLine_17 : decode cX3_readLine 17 = .ok (.invokevirtual 62, 3) := by decide +kernel
theorem dX3_readLine_20 : decode cX3_readLine 20 = .ok (.aload_n 0, 1) := by decide +kernel
theorem dX3_readLine_21 : decode cX3_readLine 21 = .ok (.iconst 0, 1) := by decide +kernel
theorem dX3_readLine_22 : decode cX3_readLine 22 = .ok (.bipush 9, 2) := by decide +kernel
theorem dX3_readLine_24 : decode cX3_readLine 24 = .ok (.invokevirtual 69, 3) := by decide +kernel
theorem dX3_readLine_27 : decode cX3_readLine 27 = .ok (.istore_n 2, 1) := by decide +kernel
theorem dX3_readLine_28 : decode cX3_readLine 28 = .ok (.aload_n 0, 1) := by decide +kernel
theorem dX3_readLine_29 : decode cX3_readLine 29 = .ok (.getfield 50, 3) := by decide +kernel
theorem dX3_readLine_32 : decode cX3_readLine 32 = .ok (.istore_n 3, 1) := by decide +kernel
theorem dX3_readLine_33 : decode cX3_readLine 33 = .ok (.aload_n 0, 1) := by decide +kernel
theorem dX3_readLine_34 : decode cX3_readLine 34 = .ok (.iconst 0, 1) := by decide +kernel
theorem dX3_readLine_35 : decode cX3_readLine 35 = .ok (.iconst 3, 1) := by decide +kernel
theorem dX3_readLine_36 : decode cX3_readLine 36 = .ok (.invokevirtual 69, 3) := by decide +kernel
theorem dX3_readLine_39 : decode cX3_readLine 39 = .ok (.istore 4, 2) := by decide +kernel
theorem dX3_readLine_41 : decode cX3_readLine 41 = .ok (.aload_n 1, 1) := by decide +kernel
theorem dX3_readLine_42 : decode cX3_readLine 42 = .ok (.iload_n 2, 1) := by decide +kernel
theorem dX3_readLine_43 : decode cX3_readLine 43 = .ok (.iload 4, 2) := by decide +kernel
theorem dX3_readLine_45 : decode cX3_readLine 45 = .ok (.invokevirtual 88, 3) := by decide +kernel
theorem dX3_readLine_48 : decode cX3_readLine 48 = .ok (.ifCond .eq 9, 3) := by decide +kernel
theorem dX3_readLine_51 : decode cX3_readLine 51 = .ok (.aload_n 0, 1) := by decide +kernel
theorem dX3_readLine_52 : decode cX3_readLine 52 = .ok (.iload_n 3, 1) := by decide +kernel
theorem dX3_readLine_53 : decode cX3_readLine 53 = .ok (.iconst 2, 1) := by decide +kernel
theorem dX3_readLine_54 : decode cX3_readLine 54 = .ok (.invokevirtual 53, 3) := by decide +kernel
theorem dX3_readLine_57 : decode cX3_readLine 57 = .ok (.aload_n 0, 1) := by decide +kernel
theorem dX3_readLine_58 : decode cX3_readLine 58 = .ok (.iconst 1, 1) := by decide +kernel
theorem dX3_readLine_59 : decode cX3_readLine 59 = .ok (.bipush 9, 2) := by decide +kernel
theorem dX3_readLine_61 : decode cX3_readLine 61 = .ok (.invokevirtual 69, 3) := by decide +kernel
theorem dX3_readLine_64 : decode cX3_readLine 64 = .ok (.istore 5, 2) := by decide +kernel
theorem dX3_readLine_66 : decode cX3_readLine 66 = .ok (.aload_n 0, 1) := by decide +kernel
theorem dX3_readLine_67 : decode cX3_readLine 67 = .ok (.invokevirtual 73, 3) := by decide +kernel
theorem dX3_readLine_70 : decode cX3_readLine 70 = .ok (.aload_n 0, 1) := by decide +kernel
theorem dX3_readLine_71 : decode cX3_readLine 71 = .ok (.getfield 22, 3) := by decide +kernel
theorem dX3_readLine_74 : decode cX3_readLine 74 = .ok (.ifCond .ne 12, 3) := by decide +kernel
theorem dX3_readLine_77 : decode cX3_readLine 77 = .ok (.aload_n 1, 1) := by decide +kernel
theorem dX3_readLine_78 : decode cX3_readLine 78 = .ok (.iload_n 2, 1) := by decide +kernel
theorem dX3_readLine_79 : decode cX3_readLine 79 = .ok (.iload 4, 2) := by decide +kernel
theorem dX3_readLine_81 : decode cX3_readLine 81 = .ok (.iload 5, 2) := by decide +kernel
theorem dX3_readLine_83 : decode cX3_readLine 83 = .ok (.invokevirtual 92, 3) := by decide +kernel
theorem dX3_readLine_86 : decode cX3_readLine 86 = .ok (.return_, 1) := by decide +kernel
theorem dX3_readRights_0 : decode cX3_readRights 0 = .ok (.iconst 0, 1) := by decide +kernel
theorem dX3_readRights_1 : decode cX3_readRights 1 = .ok (.istore_n 2, 1) := by decide +kernel
theorem dX3_readRights_2 : decode cX3_readRights 2 = .ok (.iload_n 2, 1) := by decide +kernel
theorem dX3_readRights_3 : decode cX3_readRights 3 = .ok (.bipush 8, 2) := by decide +kernel
theorem dX3_readRights_5 : decode cX3_readRights 5 = .ok (.if_icmp .gt 23, 3) := by decide +kernel
theorem dX3_readRights_8 : decode cX3_readRights 8 = .ok (.aload_n 0, 1) := by decide +kernel
theorem dX3_readRights_9 : decode cX3_readRights 9 = .ok (.ldc 96, 2) := by decide +kernel
theorem dX3_readRights_11 : decode cX3_readRights 11 = .ok (.invokevirtual 81, 3) := by decide +kernel
theorem dX3_readRights_14 : decode cX3_readRights 14 = .ok (.ifCond .eq 14, 3) := by decide +kernel
theorem dX3_readRights_17 : decode cX3_readRights 17 = .ok (.aload_n 0, 1) := by decide +kernel
theorem dX3_readRights_18 : decode cX3_readRights 18 = .ok (.aload_n 1, 1) := by decide +kernel
theorem dX3_readRights_19 : decode cX3_readRights 19 = .ok (.invokevirtual 98, 3) := by decide +kernel
theorem dX3_readRights_22 : decode cX3_readRights 22 = .ok (.iinc 2 1, 3) := by decide +kernel
theorem dX3_readRights_25 : decode cX3_readRights 25 = .ok (.goto (-23), 3) := by decide +kernel
theorem dX3_readRights_28 : decode cX3_readRights 28 = .ok (.return_, 1) := by decide +kernel
theorem dX3_readRight_0 : decode cX3_readRight 0 = .ok (.aload_n 0, 1) := by decide +kernel
theorem dX3_readRight_1 : decode cX3_readRight 1 = .ok (.ldc 96, 2) := by decide +kernel
theorem dX3_readRight_3 : decode cX3_readRight 3 = .ok (.aload_n 1, 1) := by decide +kernel
theorem dX3_readRight_4 : decode cX3_readRight 4 = .ok (.getfield 101, 3) := by decide +kernel
theorem dX3_readRight_7 : decode cX3_readRight 7 = .ok (.bipush 8, 2) := by decide +kernel
theorem dX3_readRight_9 : decode cX3_readRight 9 = .ok (.if_icmp .ge 7, 3) := by decide +kernel
theorem dX3_readRight_12 : decode cX3_readRight 12 = .ok (.iconst 1, 1) := by decide +kernel
theorem dX3_readRight_13 : decode cX3_readRight 13 = .ok (.goto 4, 3) := by decide +kernel
theorem dX3_readRight_16 : decode cX3_readRight 16 = .ok (.iconst 0, 1) := by decide +kernel
theorem dX3_readRight_17 : decode cX3_readRight 17 = .ok (.invokevirtual 62, 3) := by decide +kernel
theorem dX3_readRight_20 : decode cX3_readRight 20 = .ok (.aload_n 0, 1) := by decide +kernel
theorem dX3_readRight_21 : decode cX3_readRight 21 = .ok (.iconst 0, 1) := by decide +kernel
theorem dX3_readRight_22 : decode cX3_readRight 22 = .ok (.aload_n 1, 1) := by decide +kernel
theorem dX3_readRight_23 : decode cX3_readRight 23 = .ok (.getfield 85, 3) := by decide +kernel
theorem dX3_readRight_26 : decode cX3_readRight 26 = .ok (.iconst 1, 1) := by decide +kernel
theorem dX3_readRight_27 : decode cX3_readRight 27 = .ok (.isub, 1) := by decide +kernel
theorem dX3_readRight_28 : decode cX3_readRight 28 = .ok (.invokevirtual 69, 3) := by decide +kernel
theorem dX3_readRight_31 : decode cX3_readRight 31 = .ok (.istore_n 2, 1) := by decide +kernel
theorem dX3_readRight_32 : decode cX3_readRight 32 = .ok (.aload_n 0, 1) := by decide +kernel
theorem dX3_readRight_33 : decode cX3_readRight 33 = .ok (.iconst 0, 1) := by decide +kernel
theorem dX3_readRight_34 : decode cX3_readRight 34 = .ok (.bipush 23, 2) := by decide +kernel
theorem dX3_readRight_36 : decode cX3_readRight 36 = .ok (.invokevirtual 69, 3) := by decide +kernel
theorem dX3_readRight_39 : decode cX3_readRight 39 = .ok (.istore_n 3, 1) := by decide +kernel
theorem dX3_readRight_40 : decode cX3_readRight 40 = .ok (.aload_n 0, 1) := by decide +kernel
theorem dX3_readRight_41 : decode cX3_readRight 41 = .ok (.iload_n 3, 1) := by decide +kernel
theorem dX3_readRight_42 : decode cX3_readRight 42 = .ok (.bipush 23, 2) := by decide +kernel
theorem dX3_readRight_44 : decode cX3_readRight 44 = .ok (.invokevirtual 69, 3) := by decide +kernel
theorem dX3_readRight_47 : decode cX3_readRight 47 = .ok (.istore 4, 2) := by decide +kernel
theorem dX3_readRight_49 : decode cX3_readRight 49 = .ok (.aload_n 0, 1) := by decide +kernel
theorem dX3_readRight_50 : decode cX3_readRight 50 = .ok (.iconst 0, 1) := by decide +kernel
theorem dX3_readRight_51 : decode cX3_readRight 51 = .ok (.iconst 5, 1) := by decide +kernel
theorem dX3_readRight_52 : decode cX3_readRight 52 = .ok (.invokevirtual 69, 3) := by decide +kernel
theorem dX3_readRight_55 : decode cX3_readRight 55 = .ok (.istore 5, 2) := by decide +kernel
theorem dX3_readRight_57 : decode cX3_readRight 57 = .ok (.aload_n 0, 1) := by decide +kernel
theorem dX3_readRight_58 : decode cX3_readRight 58 = .ok (.invokevirtual 73, 3) := by decide +kernel
theorem dX3_readRight_61 : decode cX3_readRight 61 = .ok (.aload_n 0, 1) := by decide +kernel
theorem dX3_readRight_62 : decode cX3_readRight 62 = .ok (.getfield 22, 3) := by decide +kernel
theorem dX3_readRight_65 : decode cX3_readRight 65 = .ok (.ifCond .ne 13, 3) := by decide +kernel
theorem dX3_readRight_68 : decode cX3_readRight 68 = .ok (.aload_n 1, 1) := by decide +kernel
theorem dX3_readRight_69 : decode cX3_readRight 69 = .ok (.iload_n 2, 1) := by decide +kernel
theorem dX3_readRight_70 : decode cX3_readRight 70 = .ok (.iload_n 3, 1) := by decide +kernel
theorem dX3_readRight_71 : decode cX3_readRight 71 = .ok (.iload 4, 2) := by decide +kernel
theorem dX3_readRight_73 : decode cX3_readRight 73 = .ok (.iload 5, 2) := by decide +kernel
theorem dX3_readRight_75 : decode cX3_readRight 75 = .ok (.invokevirtual 104, 3) := by decide +kernel
theorem dX3_readRight_78 : decode cX3_readRight 78 = .ok (.return_, 1) := by decide +kernel
theorem dX3_readPieces_0 : decode cX3_readPieces 0 = .ok (.iconst 0, 1) := by decide +kernel
theorem dX3_readPieces_1 : decode cX3_readPieces 1 = .ok (.istore_n 2, 1) := by decide +kernel
theorem dX3_readPieces_2 : decode cX3_readPieces 2 = .ok (.iload_n 2, 1) := by decide +kernel
theorem dX3_readPieces_3 : decode cX3_readPieces 3 = .ok (.bipush 10, 2) := by decide +kernel
theorem dX3_readPieces_5 : decode cX3_readPieces 5 = .ok (.if_icmp .gt 23, 3) := by decide +kernel
theorem dX3_readPieces_8 : decode cX3_readPieces 8 = .ok (.aload_n 0, 1) := by decide +kernel
theorem dX3_readPieces_9 : decode cX3_readPieces 9 = .ok (.ldc 108, 2) := by decide +kernel
theorem dX3_readPieces_11 : decode cX3_readPieces 11 = .ok (.invokevirtual 81, 3) := by decide +kernel
theorem dX3_readPieces_14 : decode cX3_readPieces 14 = .ok (.ifCond .eq 14, 3) := by decide +kernel
theorem dX3_readPieces_17 : decode cX3_readPieces 17 = .ok (.aload_n 0, 1) := by decide +kernel
theorem dX3_readPieces_18 : decode cX3_readPieces 18 = .ok (.aload_n 1, 1) := by decide +kernel
theorem dX3_readPieces_19 : decode cX3_readPieces 19 = .ok (.invokevirtual 110, 3) := by decide +kernel
theorem dX3_readPieces_22 : decode cX3_readPieces 22 = .ok (.iinc 2 1, 3) := by decide +kernel
theorem dX3_readPieces_25 : decode cX3_readPieces 25 = .ok (.goto (-23), 3) := by decide +kernel
theorem dX3_readPieces_28 : decode cX3_readPieces 28 = .ok (.return_, 1) := by decide +kernel
theorem dX3_readPiece_0 : decode cX3_readPiece 0 = .ok (.aload_n 0, 1) := by decide +kernel
theorem dX3_readPiece_1 : decode cX3_readPiece 1 = .ok (.ldc 108, 2) := by decide +kernel
theorem dX3_readPiece_3 : decode cX3_readPiece 3 = .ok (.aload_n 1, 1) := by decide +kernel
theorem dX3_readPiece_4 : decode cX3_readPiece 4 = .ok (.getfield 113, 3) := by decide +kernel
theorem dX3_readPiece_7 : decode cX3_readPiece 7 = .ok (.bipush 10, 2) := by decide +kernel
theorem dX3_readPiece_9 : decode cX3_readPiece 9 = .ok (.if_icmp .ge 7, 3) := by decide +kernel
theorem dX3_readPiece_12 : decode cX3_readPiece 12 = .ok (.iconst 1, 1) := by decide +kernel
theorem dX3_readPiece_13 : decode cX3_readPiece 13 = .ok (.goto 4, 3) := by decide +kernel
theorem dX3_readPiece_16 : decode cX3_readPiece 16 = .ok (.iconst 0, 1) := by decide +kernel
theorem dX3_readPiece_17 : decode cX3_readPiece 17 = .ok (.invokevirtual 62, 3) := by decide +kernel
theorem dX3_readPiece_20 : decode cX3_readPiece 20 = .ok (.aload_n 0, 1) := by decide +kernel
theorem dX3_readPiece_21 : decode cX3_readPiece 21 = .ok (.invokevirtual 116, 3) := by decide +kernel
theorem dX3_readPiece_24 : decode cX3_readPiece 24 = .ok (.istore_n 2, 1) := by decide +kernel
theorem dX3_readPiece_25 : decode cX3_readPiece 25 = .ok (.aload_n 0, 1) := by decide +kernel
theorem dX3_readPiece_26 : decode cX3_readPiece 26 = .ok (.iconst 0, 1) := by decide +kernel
theorem dX3_readPiece_27 : decode cX3_readPiece 27 = .ok (.iconst 5, 1) := by decide +kernel
theorem dX3_readPiece_28 : decode cX3_readPiece 28 = .ok (.invokevirtual 69, 3) := by decide +kernel
theorem dX3_readPiece_31 : decode cX3_readPiece 31 = .ok (.istore_n 3, 1) := by decide +kernel
theorem dX3_readPiece_32 : decode cX3_readPiece 32 = .ok (.aload_n 0, 1) := by decide +kernel
theorem dX3_readPiece_33 : decode cX3_readPiece 33 = .ok (.iconst 0, 1) := by decide +kernel
theorem dX3_readPiece_34 : decode cX3_readPiece 34 = .ok (.bipush 99, 2) := by decide +kernel
theorem dX3_readPiece_36 : decode cX3_readPiece 36 = .ok (.invokevirtual 69, 3) := by decide +kernel
theorem dX3_readPiece_39 : decode cX3_readPiece 39 = .ok (.istore 4, 2) := by decide +kernel
theorem dX3_readPiece_41 : decode cX3_readPiece 41 = .ok (.aload_n 0, 1) := by decide +kernel
theorem dX3_readPiece_42 : decode cX3_readPiece 42 = .ok (.iconst 1, 1) := by decide +kernel
theorem dX3_readPiece_43 : decode cX3_readPiece 43 = .ok (.bipush 9, 2) := by decide +kernel
theorem dX3_readPiece_45 : decode cX3_readPiece 45 = .ok (.invokevirtual 69, 3) := by decide +kernel
theorem dX3_readPiece_48 : decode cX3_readPiece 48 = .ok (.istore 5, 2) := by decide +kernel
theorem dX3_readPiece_50 : decode cX3_readPiece 50 = .ok (.aload_n 0, 1) := by decide +kernel
theorem dX3_readPiece_51 : decode cX3_readPiece 51 = .ok (.invokevirtual 73, 3) := by decide +kernel
theorem dX3_readPiece_54 : decode cX3_readPiece 54 = .ok (.aload_n 0, 1) := by decide +kernel
theorem dX3_readPiece_55 : decode cX3_readPiece 55 = .ok (.getfield 22, 3) := by decide +kernel
theorem dX3_readPiece_58 : decode cX3_readPiece 58 = .ok (.ifCond .ne 13, 3) := by decide +kernel
theorem dX3_readPiece_61 : decode cX3_readPiece 61 = .ok (.aload_n 1, 1) := by decide +kernel
theorem dX3_readPiece_62 : decode cX3_readPiece 62 = .ok (.iload_n 2, 1) := by decide +kernel
theorem dX3_readPiece_63 : decode cX3_readPiece 63 = .ok (.iload_n 3, 1) := by decide +kernel
theorem dX3_readPiece_64 : decode cX3_readPiece 64 = .ok (.iload 4, 2) := by decide +kernel
theorem dX3_readPiece_66 : decode cX3_readPiece 66 = .ok (.iload 5, 2) := by decide +kernel
theorem dX3_readPiece_68 : decode cX3_readPiece 68 = .ok (.invokevirtual 122, 3) := by decide +kernel
theorem dX3_readPiece_71 : decode cX3_readPiece 71 = .ok (.return_, 1) := by decide +kernel
theorem dX3_readKind_0 : decode cX3_readKind 0 = .ok (.iconst 1, 1) := by decide +kernel
theorem dX3_readKind_1 : decode cX3_readKind 1 = .ok (.istore_n 1, 1) := by decide +kernel
theorem dX3_readKind_2 : decode cX3_readKind 2 = .ok (.iload_n 1, 1) := by decide +kernel
theorem dX3_readKind_3 : decode cX3_readKind 3 = .ok (.iconst 5, 1) := by decide +kernel
theorem dX3_readKind_4 : decode cX3_readKind 4 = .ok (.if_icmp .gt 26, 3) := by decide +kernel
theorem dX3_readKind_7 : decode cX3_readKind 7 = .ok (.aload_n 0, 1) := by decide +kernel
theorem dX3_readKind_8 : decode cX3_readKind 8 = .ok (.iload_n 1, 1) := by decide +kernel
theorem dX3_readKind_9 : decode cX3_readKind 9 = .ok (.invokestatic 125, 3) := by decide +kernel
theorem dX3_readKind_12 : decode cX3_readKind 12 = .ok (.invokevirtual 81, 3) := by decide +kernel
theorem dX3_readKind_15 : decode cX3_readKind 15 = .ok (.ifCond .eq 9, 3) := by decide +kernel
theorem dX3_readKind_18 : decode cX3_readKind 18 = .ok (.aload_n 0, 1) := by decide +kernel
theorem dX3_readKind_19 : decode cX3_readKind 19 = .ok (.invokevirtual 31, 3) := by decide +kernel
theorem dX3_readKind_22 : decode cX3_readKind 22 = .ok (.iload_n 1, 1) := by decide +kernel
theorem dX3_readKind_23 : decode cX3_readKind 23 = .ok (.ireturn, 1) := by decide +kernel
theorem dX3_readKind_24 : decode cX3_readKind 24 = .ok (.iinc 1 1, 3) := by decide +kernel
theorem dX3_readKind_27 : decode cX3_readKind 27 = .ok (.goto (-25), 3) := by decide +kernel
theorem dX3_readKind_30 : decode cX3_readKind 30 = .ok (.aload_n 0, 1) := by decide +kernel
theorem dX3_readKind_31 : decode cX3_readKind 31 = .ok (.aload_n 0, 1) := by decide +kernel
theorem dX3_readKind_32 : decode cX3_readKind 32 = .ok (.getfield 50, 3) := by decide +kernel
theorem dX3_readKind_35 : decode cX3_readKind 35 = .ok (.iconst 1, 1) := by decide +kernel
theorem dX3_readKind_36 : decode cX3_readKind 36 = .ok (.invokevirtual 53, 3) := by decide +kernel
theorem dX3_readKind_39 : decode cX3_readKind 39 = .ok (.iconst 0, 1) := by decide +kernel
theorem dX3_readKind_40 : decode cX3_readKind 40 = .ok (.ireturn, 1) := by decide +kernel
theorem dX3_sortOf_0 : decode cX3_sortOf 0 = .ok (.iload_n 0, 1) := by decide +kernel
theorem dX3_sortOf_1 : decode cX3_sortOf 1 = .ok (.tableswitch 43 1 4 #[31, 34, 37, 40], 31) := by decide +kernel
theorem dX3_sortOf_32 : decode cX3_sortOf 32 = .ok (.ldc 129, 2) := by decide +kernel
theorem dX3_sortOf_34 : decode cX3_sortOf 34 = .ok (.areturn, 1) := by decide +kernel
theorem dX3_sortOf_35 : decode cX3_sortOf 35 = .ok (.ldc 131, 2) := by decide +kernel
theorem dX3_sortOf_37 : decode cX3_sortOf 37 = .ok (.areturn, 1) := by decide +kernel
theorem dX3_sortOf_38 : decode cX3_sortOf 38 = .ok (.ldc 133, 2) := by decide +kernel
theorem dX3_sortOf_40 : decode cX3_sortOf 40 = .ok (.areturn, 1) := by decide +kernel
theorem dX3_sortOf_41 : decode cX3_sortOf 41 = .ok (.ldc 135, 2) := by decide +kernel
theorem dX3_sortOf_43 : decode cX3_sortOf 43 = .ok (.areturn, 1) := by decide +kernel
theorem dX3_sortOf_44 : decode cX3_sortOf 44 = .ok (.ldc 137, 2) := by decide +kernel
theorem dX3_sortOf_46 : decode cX3_sortOf 46 = .ok (.areturn, 1) := by decide +kernel
theorem dX3_readWord_0 : decode cX3_readWord 0 = .ok (.aload_n 0, 1) := by decide +kernel
theorem dX3_readWord_1 : decode cX3_readWord 1 = .ok (.aload_n 1, 1) := by decide +kernel
theorem dX3_readWord_2 : decode cX3_readWord 2 = .ok (.invokevirtual 81, 3) := by decide +kernel
theorem dX3_readWord_5 : decode cX3_readWord 5 = .ok (.ifCond .ne 15, 3) := by decide +kernel
theorem dX3_readWord_8 : decode cX3_readWord 8 = .ok (.aload_n 0, 1) := by decide +kernel
theorem dX3_readWord_9 : decode cX3_readWord 9 = .ok (.aload_n 0, 1) := by decide +kernel
theorem dX3_readWord_10 : decode cX3_readWord 10 = .ok (.getfield 50, 3) := by decide +kernel
theorem dX3_readWord_13 : decode cX3_readWord 13 = .ok (.iconst 1, 1) := by decide +kernel
theorem dX3_readWord_14 : decode cX3_readWord 14 = .ok (.invokevirtual 53, 3) := by decide +kernel
theorem dX3_readWord_17 : decode cX3_readWord 17 = .ok (.goto 16, 3) := by decide +kernel
theorem dX3_readWord_20 : decode cX3_readWord 20 = .ok (.iload_n 2, 1) := by decide +kernel
theorem dX3_readWord_21 : decode cX3_readWord 21 = .ok (.ifCond .ne 12, 3) := by decide +kernel
theorem dX3_readWord_24 : decode cX3_readWord 24 = .ok (.aload_n 0, 1) := by decide +kernel
theorem dX3_readWord_25 : decode cX3_readWord 25 = .ok (.aload_n 0, 1) := by decide +kernel
theorem dX3_readWord_26 : decode cX3_readWord 26 = .ok (.getfield 50, 3) := by decide +kernel
theorem dX3_readWord_29 : decode cX3_readWord 29 = .ok (.iconst 3, 1) := by decide +kernel
theorem dX3_readWord_30 : decode cX3_readWord 30 = .ok (.invokevirtual 53, 3) := by decide +kernel
theorem dX3_readWord_33 : decode cX3_readWord 33 = .ok (.aload_n 0, 1) := by decide +kernel
theorem dX3_readWord_34 : decode cX3_readWord 34 = .ok (.invokevirtual 31, 3) := by decide +kernel
theorem dX3_readWord_37 : decode cX3_readWord 37 = .ok (.return_, 1) := by decide +kernel
theorem dX3_readSign_0 : decode cX3_readSign 0 = .ok (.aload_n 0, 1) := by decide +kernel
theorem dX3_readSign_1 : decode cX3_readSign 1 = .ok (.getfield 47, 3) := by decide +kernel
theorem dX3_readSign_4 : decode cX3_readSign 4 = .ok (.iconst 3, 1) := by decide +kernel
theorem dX3_readSign_5 : decode cX3_readSign 5 = .ok (.if_icmp .eq 12, 3) := by decide +kernel
theorem dX3_readSign_8 : decode cX3_readSign 8 = .ok (.aload_n 0, 1) := by decide +kernel
theorem dX3_readSign_9 : decode cX3_readSign 9 = .ok (.aload_n 0, 1) := by decide +kernel
theorem dX3_readSign_10 : decode cX3_readSign 10 = .ok (.getfield 50, 3) := by decide +kernel
theorem dX3_readSign_13 : decode cX3_readSign 13 = .ok (.iconst 1, 1) := by decide +kernel
theorem dX3_readSign_14 : decode cX3_readSign 14 = .ok (.invokevirtual 53, 3) := by decide +kernel
theorem dX3_readSign_17 : decode cX3_readSign 17 = .ok (.aload_n 0, 1) := by decide +kernel
theorem dX3_readSign_18 : decode cX3_readSign 18 = .ok (.invokevirtual 31, 3) := by decide +kernel
theorem dX3_readSign_21 : decode cX3_readSign 21 = .ok (.return_, 1) := by decide +kernel
theorem dX3_readNumber_0 : decode cX3_readNumber 0 = .ok (.aload_n 0, 1) := by decide +kernel
theorem dX3_readNumber_1 : decode cX3_readNumber 1 = .ok (.getfield 47, 3) := by decide +kernel
theorem dX3_readNumber_4 : decode cX3_readNumber 4 = .ok (.iconst 2, 1) := by decide +kernel
theorem dX3_readNumber_5 : decode cX3_readNumber 5 = .ok (.if_icmp .ne 10, 3) := by decide +kernel
theorem dX3_readNumber_8 : decode cX3_readNumber 8 = .ok (.aload_n 0, 1) := by decide +kernel
theorem dX3_readNumber_9 : decode cX3_readNumber 9 = .ok (.invokevirtual 139, 3) := by decide +kernel
theorem dX3_readNumber_12 : decode cX3_readNumber 12 = .ok (.goto 4, 3) := by decide +kernel
theorem dX3_readNumber_15 : decode cX3_readNumber 15 = .ok (.iconst 0, 1) := by decide +kernel
theorem dX3_readNumber_16 : decode cX3_readNumber 16 = .ok (.istore_n 3, 1) := by decide +kernel
theorem dX3_readNumber_17 : decode cX3_readNumber 17 = .ok (.aload_n 0, 1) := by decide +kernel
theorem dX3_readNumber_18 : decode cX3_readNumber 18 = .ok (.getfield 47, 3) := by decide +kernel
theorem dX3_readNumber_21 : decode cX3_readNumber 21 = .ok (.iconst 2, 1) := by decide +kernel
theorem dX3_readNumber_22 : decode cX3_readNumber 22 = .ok (.if_icmp .eq 15, 3) := by decide +kernel
theorem dX3_readNumber_25 : decode cX3_readNumber 25 = .ok (.aload_n 0, 1) := by decide +kernel
theorem dX3_readNumber_26 : decode cX3_readNumber 26 = .ok (.aload_n 0, 1) := by decide +kernel
theorem dX3_readNumber_27 : decode cX3_readNumber 27 = .ok (.getfield 50, 3) := by decide +kernel
theorem dX3_readNumber_30 : decode cX3_readNumber 30 = .ok (.iconst 1, 1) := by decide +kernel
theorem dX3_readNumber_31 : decode cX3_readNumber 31 = .ok (.invokevirtual 53, 3) := by decide +kernel
theorem dX3_readNumber_34 : decode cX3_readNumber 34 = .ok (.goto 21, 3) := by decide +kernel
theorem dX3_readNumber_37 : decode cX3_readNumber 37 = .ok (.iload_n 3, 1) := by decide +kernel
theorem dX3_readNumber_38 : decode cX3_readNumber 38 = .ok (.iload_n 1, 1) := by decide +kernel
theorem dX3_readNumber_39 : decode cX3_readNumber 39 = .ok (.iload_n 2, 1) := by decide +kernel
theorem dX3_readNumber_40 : decode cX3_readNumber 40 = .ok (.invokestatic 142, 3) := by decide +kernel
theorem dX3_readNumber_43 : decode cX3_readNumber 43 = .ok (.ifCond .ne 12, 3) := by decide +kernel
theorem dX3_readNumber_46 : decode cX3_readNumber 46 = .ok (.aload_n 0, 1) := by decide +kernel
theorem dX3_readNumber_47 : decode cX3_readNumber 47 = .ok (.aload_n 0, 1) := by decide +kernel
theorem dX3_readNumber_48 : decode cX3_readNumber 48 = .ok (.getfield 50, 3) := by decide +kernel
theorem dX3_readNumber_51 : decode cX3_readNumber 51 = .ok (.iconst 2, 1) := by decide +kernel
theorem dX3_readNumber_52 : decode cX3_readNumber 52 = .ok (.invokevirtual 53, 3) := by decide +kernel
theorem dX3_readNumber_55 : decode cX3_readNumber 55 = .ok (.aload_n 0, 1) := by decide +kernel
theorem dX3_readNumber_56 : decode cX3_readNumber 56 = .ok (.invokevirtual 31, 3) := by decide +kernel
theorem dX3_readNumber_59 : decode cX3_readNumber 59 = .ok (.iload_n 3, 1) := by decide +kernel
theorem dX3_readNumber_60 : decode cX3_readNumber 60 = .ok (.ireturn, 1) := by decide +kernel
theorem dX3_numberOfToken_0 : decode cX3_numberOfToken 0 = .ok (.iconst 0, 1) := by decide +kernel
theorem dX3_numberOfToken_1 : decode cX3_numberOfToken 1 = .ok (.istore_n 1, 1) := by decide +kernel
theorem dX3_numberOfToken_2 : decode cX3_numberOfToken 2 = .ok (.aload_n 0, 1) := by decide +kernel
theorem dX3_numberOfToken_3 : decode cX3_numberOfToken 3 = .ok (.getfield 50, 3) := by decide +kernel
theorem dX3_numberOfToken_6 : decode cX3_numberOfToken 6 = .ok (.istore_n 2, 1) := by decide +kernel
theorem dX3_numberOfToken_7 : decode cX3_numberOfToken 7 = .ok (.iload_n 2, 1) := by decide +kernel
theorem dX3_numberOfToken_8 : decode cX3_numberOfToken 8 = .ok (.aload_n 0, 1) := by decide +kernel
theorem dX3_numberOfToken_9 : decode cX3_numberOfToken 9 = .ok (.getfield 28, 3) := by decide +kernel
theorem dX3_numberOfToken_12 : decode cX3_numberOfToken 12 = .ok (.if_icmp .ge 24, 3) := by decide +kernel
theorem dX3_numberOfToken_15 : decode cX3_numberOfToken 15 = .ok (.iload_n 1, 1) := by decide +kernel
theorem dX3_numberOfToken_16 : decode cX3_numberOfToken 16 = .ok (.bipush 10, 2) := by decide +kernel
theorem dX3_numberOfToken_18 : decode cX3_numberOfToken 18 = .ok (.imul, 1) := by decide +kernel
theorem dX3_numberOfToken_19 : decode cX3_numberOfToken 19 = .ok (.aload_n 0, 1) := by decide +kernel
theorem dX3_numberOfToken_20 : decode cX3_numberOfToken 20 = .ok (.getfield 11, 3) := by decide +kernel
theorem dX3_numberOfToken_23 : decode cX3_numberOfToken 23 = .ok (.iload_n 2, 1) := by decide +kernel
theorem dX3_numberOfToken_24 : decode cX3_numberOfToken 24 = .ok (.baload, 1) := by decide +kernel
theorem dX3_numberOfToken_25 : decode cX3_numberOfToken 25 = .ok (.iadd, 1) := by decide +kernel
theorem dX3_numberOfToken_26 : decode cX3_numberOfToken 26 = .ok (.bipush 48, 2) := by decide +kernel
theorem dX3_numberOfToken_28 : decode cX3_numberOfToken 28 = .ok (.isub, 1) := by decide +kernel
theorem dX3_numberOfToken_29 : decode cX3_numberOfToken 29 = .ok (.istore_n 1, 1) := by decide +kernel
theorem dX3_numberOfToken_30 : decode cX3_numberOfToken 30 = .ok (.iinc 2 1, 3) := by decide +kernel
theorem dX3_numberOfToken_33 : decode cX3_numberOfToken 33 = .ok (.goto (-26), 3) := by decide +kernel
theorem dX3_numberOfToken_36 : decode cX3_numberOfToken 36 = .ok (.iload_n 1, 1) := by decide +kernel
theorem dX3_numberOfToken_37 : decode cX3_numberOfToken 37 = .ok (.ireturn, 1) := by decide +kernel
theorem dX3_failAt_0 : decode cX3_failAt 0 = .ok (.aload_n 0, 1) := by decide +kernel
theorem dX3_failAt_1 : decode cX3_failAt 1 = .ok (.getfield 22, 3) := by decide +kernel
theorem dX3_failAt_4 : decode cX3_failAt 4 = .ok (.ifCond .ne 13, 3) := by decide +kernel
theorem dX3_failAt_7 : decode cX3_failAt 7 = .ok (.aload_n 0, 1) := by decide +kernel
theorem dX3_failAt_8 : decode cX3_failAt 8 = .ok (.iload_n 2, 1) := by decide +kernel
theorem dX3_failAt_9 : decode cX3_failAt 9 = .ok (.putfield 22, 3) := by decide +kernel
theorem dX3_failAt_12 : decode cX3_failAt 12 = .ok (.aload_n 0, 1) := by decide +kernel
theorem dX3_failAt_13 : decode cX3_failAt 13 = .ok (.iload_n 1, 1) := by decide +kernel
theorem dX3_failAt_14 : decode cX3_failAt 14 = .ok (.putfield 25, 3) := by decide +kernel
theorem dX3_failAt_17 : decode cX3_failAt 17 = .ok (.return_, 1) := by decide +kernel
theorem dX3_isNext_0 : decode cX3_isNext 0 = .ok (.aload_n 0, 1) := by decide +kernel
theorem dX3_isNext_1 : decode cX3_isNext 1 = .ok (.getfield 22, 3) := by decide +kernel
theorem dX3_isNext_4 : decode cX3_isNext 4 = .ok (.ifCond .ne 27, 3) := by decide +kernel
theorem dX3_isNext_7 : decode cX3_isNext 7 = .ok (.aload_n 0, 1) := by decide +kernel
theorem dX3_isNext_8 : decode cX3_isNext 8 = .ok (.getfield 47, 3) := by decide +kernel
theorem dX3_isNext_11 : decode cX3_isNext 11 = .ok (.iconst 1, 1) := by decide +kernel
theorem dX3_isNext_12 : decode cX3_isNext 12 = .ok (.if_icmp .ne 19, 3) := by decide +kernel
theorem dX3_isNext_15 : decode cX3_isNext 15 = .ok (.aload_n 0, 1) := by decide +kernel
theorem dX3_isNext_16 : decode cX3_isNext 16 = .ok (.getfield 28, 3) := by decide +kernel
theorem dX3_isNext_19 : decode cX3_isNext 19 = .ok (.aload_n 0, 1) := by decide +kernel
theorem dX3_isNext_20 : decode cX3_isNext 20 = .ok (.getfield 50, 3) := by decide +kernel
theorem dX3_isNext_23 : decode cX3_isNext 23 = .ok (.isub, 1) := by decide +kernel
theorem dX3_isNext_24 : decode cX3_isNext 24 = .ok (.aload_n 1, 1) := by decide +kernel
theorem dX3_isNext_25 : decode cX3_isNext 25 = .ok (.invokevirtual 146, 3) := by decide +kernel
theorem dX3_isNext_28 : decode cX3_isNext 28 = .ok (.if_icmp .eq 5, 3) := by decide +kernel
theorem dX3_isNext_31 : decode cX3_isNext 31 = .ok (.iconst 0, 1) := by decide +kernel
theorem dX3_isNext_32 : decode cX3_isNext 32 = .ok (.ireturn, 1) := by decide +kernel
theorem dX3_isNext_33 : decode cX3_isNext 33 = .ok (.iconst 0, 1) := by decide +kernel
theorem dX3_isNext_34 : decode cX3_isNext 34 = .ok (.istore_n 2, 1) := by decide +kernel
theorem dX3_isNext_35 : decode cX3_isNext 35 = .ok (.iload_n 2, 1) := by decide +kernel
theorem dX3_isNext_36 : decode cX3_isNext 36 = .ok (.aload_n 1, 1) := by decide +kernel
theorem dX3_isNext_37 : decode cX3_isNext 37 = .ok (.invokevirtual 146, 3) := by decide +kernel
theorem dX3_isNext_40 : decode cX3_isNext 40 = .ok (.if_icmp .ge 30, 3) := by decide +kernel
theorem dX3_isNext_43 : decode cX3_isNext 43 = .ok (.aload_n 0, 1) := by decide +kernel
theorem dX3_isNext_44 : decode cX3_isNext 44 = .ok (.getfield 11, 3) := by decide +kernel
theorem dX3_isNext_47 : decode cX3_isNext 47 = .ok (.aload_n 0, 1) := by decide +kernel
theorem dX3_isNext_48 : decode cX3_isNext 48 = .ok (.getfield 50, 3) := by decide +kernel
theorem dX3_isNext_51 : decode cX3_isNext 51 = .ok (.iload_n 2, 1) := by decide +kernel
theorem dX3_isNext_52 : decode cX3_isNext 52 = .ok (.iadd, 1) := by decide +kernel
theorem dX3_isNext_53 : decode cX3_isNext 53 = .ok (.baload, 1) := by decide +kernel
theorem dX3_isNext_54 : decode cX3_isNext 54 = .ok (.aload_n 1, 1) := by decide +kernel
theorem dX3_isNext_55 : decode cX3_isNext 55 = .ok (.iload_n 2, 1) := by decide +kernel
theorem dX3_isNext_56 : decode cX3_isNext 56 = .ok (.invokevirtual 150, 3) := by decide +kernel
theorem dX3_isNext_59 : decode cX3_isNext 59 = .ok (.if_icmp .eq 5, 3) := by decide +kernel
theorem dX3_isNext_62 : decode cX3_isNext 62 = .ok (.iconst 0, 1) := by decide +kernel
theorem dX3_isNext_63 : decode cX3_isNext 63 = .ok (.ireturn, 1) := by decide +kernel
theorem dX3_isNext_64 : decode cX3_isNext 64 = .ok (.iinc 2 1, 3) := by decide +kernel
theorem dX3_isNext_67 : decode cX3_isNext 67 = .ok (.goto (-32), 3) := by decide +kernel
theorem dX3_isNext_70 : decode cX3_isNext 70 = .ok (.iconst 1, 1) := by decide +kernel
theorem dX3_isNext_71 : decode cX3_isNext 71 = .ok (.ireturn, 1) := by decide +kernel
theorem dX3_nextToken_0 : decode cX3_nextToken 0 = .ok (.aload_n 0, 1) := by decide +kernel
theorem dX3_nextToken_1 : decode cX3_nextToken 1 = .ok (.getfield 22, 3) := by decide +kernel
theorem dX3_nextToken_4 : decode cX3_nextToken 4 = .ok (.ifCond .eq 4, 3) := by decide +kernel
theorem dX3_nextToken_7 : decode cX3_nextToken 7 = .ok (.return_, 1) := by decide +kernel
theorem dX3_nextToken_8 : decode cX3_nextToken 8 = .ok (.aload_n 0, 1) := by decide +kernel
theorem dX3_nextToken_9 : decode cX3_nextToken 9 = .ok (.getfield 28, 3) := by decide +kernel
theorem dX3_nextToken_12 : decode cX3_nextToken 12 = .ok (.istore_n 1, 1) := by decide +kernel
theorem dX3_nextToken_13 : decode cX3_nextToken 13 = .ok (.iload_n 1, 1) := by decide +kernel
theorem dX3_nextToken_14 : decode cX3_nextToken 14 = .ok (.aload_n 0, 1) := by decide +kernel
theorem dX3_nextToken_15 : decode cX3_nextToken 15 = .ok (.getfield 15, 3) := by decide +kernel
theorem dX3_nextToken_18 : decode cX3_nextToken 18 = .ok (.if_icmp .ge 18, 3) := by decide +kernel
theorem dX3_nextToken_21 : decode cX3_nextToken 21 = .ok (.aload_n 0, 1) := by decide +kernel
theorem dX3_nextToken_22 : decode cX3_nextToken 22 = .ok (.iload_n 1, 1) := by decide +kernel
theorem dX3_nextToken_23 : decode cX3_nextToken 23 = .ok (.invokevirtual 154, 3) := by decide +kernel
theorem dX3_nextToken_26 : decode cX3_nextToken 26 = .ok (.iconst 5, 1) := by decide +kernel
theorem dX3_nextToken_27 : decode cX3_nextToken 27 = .ok (.if_icmp .ne 9, 3) := by decide +kernel
theorem dX3_nextToken_30 : decode cX3_nextToken 30 = .ok (.iinc 1 1, 3) := by decide +kernel
theorem dX3_nextToken_33 : decode cX3_nextToken 33 = .ok (.goto (-20), 3) := by decide +kernel
theorem dX3_nextToken_36 : decode cX3_nextToken 36 = .ok (.aload_n 0, 1) := by decide +kernel
theorem dX3_nextToken_37 : decode cX3_nextToken 37 = .ok (.iload_n 1, 1) := by decide +kernel
theorem dX3_nextToken_38 : decode cX3_nextToken 38 = .ok (.putfield 50, 3) := by decide +kernel
theorem dX3_nextToken_41 : decode cX3_nextToken 41 = .ok (.aload_n 0, 1) := by decide +kernel
theorem dX3_nextToken_42 : decode cX3_nextToken 42 = .ok (.iload_n 1, 1) := by decide +kernel
theorem dX3_nextToken_43 : decode cX3_nextToken 43 = .ok (.aload_n 0, 1) := by decide +kernel
theorem dX3_nextToken_44 : decode cX3_nextToken 44 = .ok (.getfield 15, 3) := by decide +kernel
theorem dX3_nextToken_47 : decode cX3_nextToken 47 = .ok (.if_icmp .ge 11, 3) := by decide +kernel
theorem dX3_nextToken_50 : decode cX3_nextToken 50 = .ok (.aload_n 0, 1) := by decide +kernel
theorem dX3_nextToken_51 : decode cX3_nextToken 51 = .ok (.iload_n 1, 1) := by decide +kernel
theorem dX3_nextToken_52 : decode cX3_nextToken 52 = .ok (.invokevirtual 154, 3) := by decide +kernel
theorem dX3_nextToken_55 : decode cX3_nextToken 55 = .ok (.goto 4, 3) := by decide +kernel
theorem dX3_nextToken_58 : decode cX3_nextToken 58 = .ok (.iconst 0, 1) := by decide +kernel
theorem dX3_nextToken_59 : decode cX3_nextToken 59 = .ok (.putfield 47, 3) := by decide +kernel
theorem dX3_nextToken_62 : decode cX3_nextToken 62 = .ok (.aload_n 0, 1) := by decide +kernel
theorem dX3_nextToken_63 : decode cX3_nextToken 63 = .ok (.iload_n 1, 1) := by decide +kernel
theorem dX3_nextToken_64 : decode cX3_nextToken 64 = .ok (.iconst 1, 1) := by decide +kernel
theorem dX3_nextToken_65 : decode cX3_nextToken 65 = .ok (.iadd, 1) := by decide +kernel
theorem dX3_nextToken_66 : decode cX3_nextToken 66 = .ok (.aload_n 0, 1) := by decide +kernel
theorem dX3_nextToken_67 : decode cX3_nextToken 67 = .ok (.getfield 15, 3) := by decide +kernel
theorem dX3_nextToken_70 : decode cX3_nextToken 70 = .ok (.invokestatic 158, 3) := by decide +kernel
theorem dX3_nextToken_73 : decode cX3_nextToken 73 = .ok (.putfield 28, 3) := by decide +kernel
theorem dX3_nextToken_76 : decode cX3_nextToken 76 = .ok (.aload_n 0, 1) := by decide +kernel
theorem dX3_nextToken_77 : decode cX3_nextToken 77 = .ok (.getfield 47, 3) := by decide +kernel
theorem dX3_nextToken_80 : decode cX3_nextToken 80 = .ok (.iconst 1, 1) := by decide +kernel
theorem dX3_nextToken_81 : decode cX3_nextToken 81 = .ok (.if_icmp .eq 11, 3) := by decide +kernel
theorem dX3_nextToken_84 : decode cX3_nextToken 84 = .ok (.aload_n 0, 1) := by decide +kernel
theorem dX3_nextToken_85 : decode cX3_nextToken 85 = .ok (.getfield 47, 3) := by decide +kernel
theorem dX3_nextToken_88 : decode cX3_nextToken 88 = .ok (.iconst 2, 1) := by decide +kernel
theorem dX3_nextToken_89 : decode cX3_nextToken 89 = .ok (.if_icmp .ne 42, 3) := by decide +kernel
theorem dX3_nextToken_92 : decode cX3_nextToken 92 = .ok (.aload_n 0, 1) := by decide +kernel
theorem dX3_nextToken_93 : decode cX3_nextToken 93 = .ok (.getfield 28, 3) := by decide +kernel
theorem dX3_nextToken_96 : decode cX3_nextToken 96 = .ok (.aload_n 0, 1) := by decide +kernel
theorem dX3_nextToken_97 : decode cX3_nextToken 97 = .ok (.getfield 15, 3) := by decide +kernel
theorem dX3_nextToken_100 : decode cX3_nextToken 100 = .ok (.if_icmp .ge 31, 3) := by decide +kernel
theorem dX3_nextToken_103 : decode cX3_nextToken 103 = .ok (.aload_n 0, 1) := by decide +kernel
theorem dX3_nextToken_104 : decode cX3_nextToken 104 = .ok (.aload_n 0, 1) := by decide +kernel
theorem dX3_nextToken_105 : decode cX3_nextToken 105 = .ok (.getfield 28, 3) := by decide +kernel
theorem dX3_nextToken_108 : decode cX3_nextToken 108 = .ok (.invokevirtual 154, 3) := by decide +kernel
theorem dX3_nextToken_111 : decode cX3_nextToken 111 = .ok (.aload_n 0, 1) := by decide +kernel
theorem dX3_nextToken_112 : decode cX3_nextToken 112 = .ok (.getfield 47, 3) := by decide +kernel
theorem dX3_nextToken_115 : decode cX3_nextToken 115 = .ok (.if_icmp .ne 16, 3) := by decide +kernel
theorem dX3_nextToken_118 : decode cX3_nextToken 118 = .ok (.aload_n 0, 1) := by decide +kernel
theorem dX3_nextToken_119 : decode cX3_nextToken 119 = .ok (.dup, 1) := by decide +kernel
theorem dX3_nextToken_120 : decode cX3_nextToken 120 = .ok (.getfield 28, 3) := by decide +kernel
theorem dX3_nextToken_123 : decode cX3_nextToken 123 = .ok (.iconst 1, 1) := by decide +kernel
theorem dX3_nextToken_124 : decode cX3_nextToken 124 = .ok (.iadd, 1) := by decide +kernel
theorem dX3_nextToken_125 : decode cX3_nextToken 125 = .ok (.putfield 28, 3) := by decide +kernel
theorem dX3_nextToken_128 : decode cX3_nextToken 128 = .ok (.goto (-36), 3) := by decide +kernel
theorem dX3_nextToken_131 : decode cX3_nextToken 131 = .ok (.aload_n 0, 1) := by decide +kernel
theorem dX3_nextToken_132 : decode cX3_nextToken 132 = .ok (.getfield 47, 3) := by decide +kernel
theorem dX3_nextToken_135 : decode cX3_nextToken 135 = .ok (.iconst 2, 1) := by decide +kernel
theorem dX3_nextToken_136 : decode cX3_nextToken 136 = .ok (.if_icmp .ne 21, 3) := by decide +kernel
theorem dX3_nextToken_139 : decode cX3_nextToken 139 = .ok (.aload_n 0, 1) := by decide +kernel
theorem dX3_nextToken_140 : decode cX3_nextToken 140 = .ok (.getfield 28, 3) := by decide +kernel
theorem dX3_nextToken_143 : decode cX3_nextToken 143 = .ok (.aload_n 0, 1) := by decide +kernel
theorem dX3_nextToken_144 : decode cX3_nextToken 144 = .ok (.getfield 50, 3) := by decide +kernel
theorem dX3_nextToken_147 : decode cX3_nextToken 147 = .ok (.isub, 1) := by decide +kernel
theorem dX3_nextToken_148 : decode cX3_nextToken 148 = .ok (.iconst 3, 1) := by decide +kernel
theorem dX3_nextToken_149 : decode cX3_nextToken 149 = .ok (.if_icmp .le 8, 3) := by decide +kernel
theorem dX3_nextToken_152 : decode cX3_nextToken 152 = .ok (.aload_n 0, 1) := by decide +kernel
theorem dX3_nextToken_153 : decode cX3_nextToken 153 = .ok (.iconst 4, 1) := by decide +kernel
theorem dX3_nextToken_154 : decode cX3_nextToken 154 = .ok (.putfield 47, 3) := by decide +kernel
theorem dX3_nextToken_157 : decode cX3_nextToken 157 = .ok (.return_, 1) := by decide +kernel
theorem dX3_sortAt_0 : decode cX3_sortAt 0 = .ok (.aload_n 0, 1) := by decide +kernel
theorem dX3_sortAt_1 : decode cX3_sortAt 1 = .ok (.getfield 11, 3) := by decide +kernel
theorem dX3_sortAt_4 : decode cX3_sortAt 4 = .ok (.iload_n 1, 1) := by decide +kernel
theorem dX3_sortAt_5 : decode cX3_sortAt 5 = .ok (.baload, 1) := by decide +kernel
theorem dX3_sortAt_6 : decode cX3_sortAt 6 = .ok (.istore_n 2, 1) := by decide +kernel
theorem dX3_sortAt_7 : decode cX3_sortAt 7 = .ok (.iload_n 2, 1) := by decide +kernel
theorem dX3_sortAt_8 : decode cX3_sortAt 8 = .ok (.bipush 32, 2) := by decide +kernel
theorem dX3_sortAt_10 : decode cX3_sortAt 10 = .ok (.if_icmp .eq 9, 3) := by decide +kernel
theorem dX3_sortAt_13 : decode cX3_sortAt 13 = .ok (.iload_n 2, 1) := by decide +kernel
theorem dX3_sortAt_14 : decode cX3_sortAt 14 = .ok (.bipush 10, 2) := by decide +kernel
theorem dX3_sortAt_16 : decode cX3_sortAt 16 = .ok (.if_icmp .ne 5, 3) := by decide +kernel
theorem dX3_sortAt_19 : decode cX3_sortAt 19 = .ok (.iconst 5, 1) := by decide +kernel
theorem dX3_sortAt_20 : decode cX3_sortAt 20 = .ok (.ireturn, 1) := by decide +kernel
theorem dX3_sortAt_21 : decode cX3_sortAt 21 = .ok (.iload_n 2, 1) := by decide +kernel
theorem dX3_sortAt_22 : decode cX3_sortAt 22 = .ok (.bipush 97, 2) := by decide +kernel
theorem dX3_sortAt_24 : decode cX3_sortAt 24 = .ok (.bipush 122, 2) := by decide +kernel
theorem dX3_sortAt_26 : decode cX3_sortAt 26 = .ok (.invokestatic 142, 3) := by decide +kernel
theorem dX3_sortAt_29 : decode cX3_sortAt 29 = .ok (.ifCond .eq 5, 3) := by decide +kernel
theorem dX3_sortAt_32 : decode cX3_sortAt 32 = .ok (.iconst 1, 1) := by decide +kernel
theorem dX3_sortAt_33 : decode cX3_sortAt 33 = .ok (.ireturn, 1) := by decide +kernel
theorem dX3_sortAt_34 : decode cX3_sortAt 34 = .ok (.iload_n 2, 1) := by decide +kernel
theorem dX3_sortAt_35 : decode cX3_sortAt 35 = .ok (.bipush 48, 2) := by decide +kernel
theorem dX3_sortAt_37 : decode cX3_sortAt 37 = .ok (.bipush 57, 2) := by decide +kernel
theorem dX3_sortAt_39 : decode cX3_sortAt 39 = .ok (.invokestatic 142, 3) := by decide +kernel
theorem dX3_sortAt_42 : decode cX3_sortAt 42 = .ok (.ifCond .eq 5, 3) := by decide +kernel
theorem dX3_sortAt_45 : decode cX3_sortAt 45 = .ok (.iconst 2, 1) := by decide +kernel
theorem dX3_sortAt_46 : decode cX3_sortAt 46 = .ok (.ireturn, 1) := by decide +kernel
theorem dX3_sortAt_47 : decode cX3_sortAt 47 = .ok (.iload_n 2, 1) := by decide +kernel
theorem dX3_sortAt_48 : decode cX3_sortAt 48 = .ok (.bipush 59, 2) := by decide +kernel
theorem dX3_sortAt_50 : decode cX3_sortAt 50 = .ok (.if_icmp .ne 7, 3) := by decide +kernel
theorem dX3_sortAt_53 : decode cX3_sortAt 53 = .ok (.iconst 3, 1) := by decide +kernel
theorem dX3_sortAt_54 : decode cX3_sortAt 54 = .ok (.goto 4, 3) := by decide +kernel
theorem dX3_sortAt_57 : decode cX3_sortAt 57 = .ok (.iconst 4, 1) := by decide +kernel
theorem dX3_sortAt_58 : decode cX3_sortAt 58 = .ok (.ireturn, 1) := by decide +kernel
theorem dX4_init_0 : decode cX4_init 0 = .ok (.aload_n 0, 1) := by decide +kernel
theorem dX4_init_1 : decode cX4_init 1 = .ok (.iload_n 1, 1) := by decide +kernel
theorem dX4_init_2 : decode cX4_init 2 = .ok (.iload_n 2, 1) := by decide +kernel
theorem dX4_init_3 : decode cX4_init 3 = .ok (.iload_n 3, 1) := by decide +kernel
theorem dX4_init_4 : decode cX4_init 4 = .ok (.aload 4, 2) := by decide +kernel
theorem dX4_init_6 : decode cX4_init 6 = .ok (.invokespecial 1, 3) := by decide +kernel
theorem dX4_init_9 : decode cX4_init 9 = .ok (.return_, 1) := by decide +kernel
theorem dX4_size_0 : decode cX4_size 0 = .ok (.aload_n 0, 1) := by decide +kernel
theorem dX4_size_1 : decode cX4_size 1 = .ok (.getfield 7, 3) := by decide +kernel
theorem dX4_size_4 : decode cX4_size 4 = .ok (.bipush 11, 2) := by decide +kernel
theorem dX4_size_6 : decode cX4_size 6 = .ok (.invokevirtual 13, 3) := by decide +kernel
theorem dX4_size_9 : decode cX4_size 9 = .ok (.aload_n 0, 1) := by decide +kernel
theorem dX4_size_10 : decode cX4_size 10 = .ok (.invokespecial 19, 3) := by decide +kernel
theorem dX4_size_13 : decode cX4_size 13 = .ok (.aload_n 0, 1) := by decide +kernel
theorem dX4_size_14 : decode cX4_size 14 = .ok (.invokevirtual 23, 3) := by decide +kernel
theorem dX4_size_17 : decode cX4_size 17 = .ok (.iadd, 1) := by decide +kernel
theorem dX4_size_18 : decode cX4_size 18 = .ok (.ireturn, 1) := by decide +kernel
theorem dX4_mark_0 : decode cX4_mark 0 = .ok (.aload_n 0, 1) := by decide +kernel
theorem dX4_mark_1 : decode cX4_mark 1 = .ok (.getfield 7, 3) := by decide +kernel
theorem dX4_mark_4 : decode cX4_mark 4 = .ok (.bipush 21, 2) := by decide +kernel
theorem dX4_mark_6 : decode cX4_mark 6 = .ok (.invokevirtual 13, 3) := by decide +kernel
theorem dX4_mark_9 : decode cX4_mark 9 = .ok (.aload_n 0, 1) := by decide +kernel
theorem dX4_mark_10 : decode cX4_mark 10 = .ok (.invokespecial 26, 3) := by decide +kernel
theorem dX4_mark_13 : decode cX4_mark 13 = .ok (.aload_n 0, 1) := by decide +kernel
theorem dX4_mark_14 : decode cX4_mark 14 = .ok (.getfield 27, 3) := by decide +kernel
theorem dX4_mark_17 : decode cX4_mark 17 = .ok (.iadd, 1) := by decide +kernel
theorem dX4_mark_18 : decode cX4_mark 18 = .ok (.ireturn, 1) := by decide +kernel
theorem dX5_init_0 : decode cX5_init 0 = .ok (.aload_n 0, 1) := by decide +kernel
theorem dX5_init_1 : decode cX5_init 1 = .ok (.invokespecial 1, 3) := by decide +kernel
theorem dX5_init_4 : decode cX5_init 4 = .ok (.aload_n 0, 1) := by decide +kernel
theorem dX5_init_5 : decode cX5_init 5 = .ok (.bipush 8, 2) := by decide +kernel
theorem dX5_init_7 : decode cX5_init 7 = .ok (.newarray .int, 2) := by decide +kernel
theorem dX5_init_9 : decode cX5_init 9 = .ok (.putfield 9, 3) := by decide +kernel
theorem dX5_init_12 : decode cX5_init 12 = .ok (.aload_n 0, 1) := by decide +kernel
theorem dX5_init_13 : decode cX5_init 13 = .ok (.bipush 8, 2) := by decide +kernel
theorem dX5_init_15 : decode cX5_init 15 = .ok (.newarray .int, 2) := by decide +kernel
theorem dX5_init_17 : decode cX5_init 17 = .ok (.putfield 13, 3) := by decide +kernel
theorem dX5_init_20 : decode cX5_init 20 = .ok (.aload_n 0, 1) := by decide +kernel
theorem dX5_init_21 : decode cX5_init 21 = .ok (.sipush 320, 3) := by decide +kernel
theorem dX5_init_24 : decode cX5_init 24 = .ok (.newarray .int, 2) := by decide +kernel
theorem dX5_init_26 : decode cX5_init 26 = .ok (.putfield 16, 3) := by decide +kernel
theorem dX5_init_29 : decode cX5_init 29 = .ok (.aload_n 0, 1) := by decide +kernel
theorem dX5_init_30 : decode cX5_init 30 = .ok (.getfield 9, 3) := by decide +kernel
theorem dX5_init_33 : decode cX5_init 33 = .ok (.iconst (-1), 1) := by decide +kernel
theorem dX5_init_34 : decode cX5_init 34 = .ok (.invokestatic 19, 3) := by decide +kernel
theorem dX5_init_37 : decode cX5_init 37 = .ok (.return_, 1) := by decide +kernel
theorem dX5_isRow_0 : decode cX5_isRow 0 = .ok (.iload_n 1, 1) := by decide +kernel
theorem dX5_isRow_1 : decode cX5_isRow 1 = .ok (.iconst 0, 1) := by decide +kernel
theorem dX5_isRow_2 : decode cX5_isRow 2 = .ok (.bipush 7, 2) := by decide +kernel
theorem dX5_isRow_4 : decode cX5_isRow 4 = .ok (.invokestatic 25, 3) := by decide +kernel
theorem dX5_isRow_7 : decode cX5_isRow 7 = .ok (.ireturn, 1) := by decide +kernel
theorem dX5_isMissing_0 : decode cX5_isMissing 0 = .ok (.aload_n 0, 1) := by decide +kernel
theorem dX5_isMissing_1 : decode cX5_isMissing 1 = .ok (.getfield 9, 3) := by decide +kernel
theorem dX5_isMissing_4 : decode cX5_isMissing 4 = .ok (.iload_n 1, 1) := by decide +kernel
theorem dX5_isMissing_5 : decode cX5_isMissing 5 = .ok (.iaload, 1) := by decide +kernel
theorem dX5_isMissing_6 : decode cX5_isMissing 6 = .ok (.iconst (-1), 1) := by decide +kernel
theorem dX5_isMissing_7 : decode cX5_isMissing 7 = .ok (.if_icmp .ne 7, 3) := by decide +kernel
theorem dX5_isMissing_10 : decode cX5_isMissing 10 = .ok (.iconst 1, 1) := by decide +kernel
theorem dX5_isMissing_11 : decode cX5_isMissing 11 = .ok (.goto 4, 3) := by decide +kernel
theorem dX5_isMissing_14 : decode cX5_isMissing 14 = .ok (.iconst 0, 1) := by decide +kernel
theorem dX5_isMissing_15 : decode cX5_isMissing 15 = .ok (.ireturn, 1) := by decide +kernel
theorem dX5_areAlike_0 : decode cX5_areAlike 0 = .ok (.aload_n 0, 1) := by decide +kernel
theorem dX5_areAlike_1 : decode cX5_areAlike 1 = .ok (.getfield 9, 3) := by decide +kernel
theorem dX5_areAlike_4 : decode cX5_areAlike 4 = .ok (.iload_n 1, 1) := by decide +kernel
theorem dX5_areAlike_5 : decode cX5_areAlike 5 = .ok (.iaload, 1) := by decide +kernel
theorem dX5_areAlike_6 : decode cX5_areAlike 6 = .ok (.aload_n 0, 1) := by decide +kernel
theorem dX5_areAlike_7 : decode cX5_areAlike 7 = .ok (.getfield 9, 3) := by decide +kernel
theorem dX5_areAlike_10 : decode cX5_areAlike 10 = .ok (.iload_n 2, 1) := by decide +kernel
theorem dX5_areAlike_11 : decode cX5_areAlike 11 = .ok (.iaload, 1) := by decide +kernel
theorem dX5_areAlike_12 : decode cX5_areAlike 12 = .ok (.if_icmp .ne 7, 3) := by decide +kernel
theorem dX5_areAlike_15 : decode cX5_areAlike 15 = .ok (.iconst 1, 1) := by decide +kernel
theorem dX5_areAlike_16 : decode cX5_areAlike 16 = .ok (.goto 4, 3) := by decide +kernel
theorem dX5_areAlike_19 : decode cX5_areAlike 19 = .ok (.iconst 0, 1) := by decide +kernel
theorem dX5_areAlike_20 : decode cX5_areAlike 20 = .ok (.ireturn, 1) := by decide +kernel
theorem dX5_hasItems_0 : decode cX5_hasItems 0 = .ok (.iload_n 2, 1) := by decide +kernel
theorem dX5_hasItems_1 : decode cX5_hasItems 1 = .ok (.ifCond .lt 23, 3) := by decide +kernel
theorem dX5_hasItems_4 : decode cX5_hasItems 4 = .ok (.iload_n 3, 1) := by decide +kernel
theorem dX5_hasItems_5 : decode cX5_hasItems 5 = .ok (.ifCond .lt 19, 3) := by decide +kernel
theorem dX5_hasItems_8 : decode cX5_hasItems 8 = .ok (.iload_n 2, 1) := by decide +kernel
theorem dX5_hasItems_9 : decode cX5_hasItems 9 = .ok (.aload_n 0, 1) := by decide +kernel
theorem dX5_hasItems_10 : decode cX5_hasItems 10 = .ok (.getfield 13, 3) := by decide +kernel
theorem dX5_hasItems_13 : decode cX5_hasItems 13 = .ok (.iload_n 1, 1) := by decide +kernel
theorem dX5_hasItems_14 : decode cX5_hasItems 14 = .ok (.iaload, 1) := by decide +kernel
theorem dX5_hasItems_15 : decode cX5_hasItems 15 = .ok (.iload_n 3, 1) := by decide +kernel
theorem dX5_hasItems_16 : decode cX5_hasItems 16 = .ok (.isub, 1) := by decide +kernel
theorem dX5_hasItems_17 : decode cX5_hasItems 17 = .ok (.if_icmp .gt 7, 3) := by decide +kernel
theorem dX5_hasItems_20 : decode cX5_hasItems 20 = .ok (.iconst 1, 1) := by decide +kernel
theorem dX5_hasItems_21 : decode cX5_hasItems 21 = .ok (.goto 4, 3) := by decide +kernel
theorem dX5_hasItems_24 : decode cX5_hasItems 24 = .ok (.iconst 0, 1) := by decide +kernel
theorem dX5_hasItems_25 : decode cX5_hasItems 25 = .ok (.ireturn, 1) := by decide +kernel
theorem dX5_make_0 : decode cX5_make 0 = .ok (.aload_n 0, 1) := by decide +kernel
theorem dX5_make_1 : decode cX5_make 1 = .ok (.getfield 9, 3) := by decide +kernel
theorem dX5_make_4 : decode cX5_make 4 = .ok (.iload_n 1, 1) := by decide +kernel
theorem dX5_make_5 : decode cX5_make 5 = .ok (.iload_n 2, 1) := by decide +kernel
theorem dX5_make_6 : decode cX5_make 6 = .ok (.iastore, 1) := by decide +kernel
theorem dX5_make_7 : decode cX5_make 7 = .ok (.aload_n 0, 1) := by decide +kernel
theorem dX5_make_8 : decode cX5_make 8 = .ok (.getfield 13, 3) := by decide +kernel
theorem dX5_make_11 : decode cX5_make 11 = .ok (.iload_n 1, 1) := by decide +kernel
theorem dX5_make_12 : decode cX5_make 12 = .ok (.iload_n 3, 1) := by decide +kernel
theorem dX5_make_13 : decode cX5_make 13 = .ok (.iastore, 1) := by decide +kernel
theorem dX5_make_14 : decode cX5_make 14 = .ok (.aload_n 0, 1) := by decide +kernel
theorem dX5_make_15 : decode cX5_make 15 = .ok (.getfield 16, 3) := by decide +kernel
theorem dX5_make_18 : decode cX5_make 18 = .ok (.iload_n 1, 1) := by decide +kernel
theorem dX5_make_19 : decode cX5_make 19 = .ok (.bipush 40, 2) := by decide +kernel
theorem dX5_make_21 : decode cX5_make 21 = .ok (.imul, 1) := by decide +kernel
theorem dX5_make_22 : decode cX5_make 22 = .ok (.iload_n 1, 1) := by decide +kernel
theorem dX5_make_23 : decode cX5_make 23 = .ok (.bipush 40, 2) := by decide +kernel
theorem dX5_make_25 : decode cX5_make 25 = .ok (.imul, 1) := by decide +kernel
theorem dX5_make_26 : decode cX5_make 26 = .ok (.iload_n 3, 1) := by decide +kernel
theorem dX5_make_27 : decode cX5_make 27 = .ok (.iadd, 1) := by decide +kernel
theorem dX5_make_28 : decode cX5_make 28 = .ok (.iconst 0, 1) := by decide +kernel
theorem dX5_make_29 : decode cX5_make 29 = .ok (.invokestatic 31, 3) := by decide +kernel
theorem dX5_make_32 : decode cX5_make 32 = .ok (.return_, 1) := by decide +kernel
theorem dX5_lose_0 : decode cX5_lose 0 = .ok (.aload_n 0, 1) := by decide +kernel
theorem dX5_lose_1 : decode cX5_lose 1 = .ok (.getfield 13, 3) := by decide +kernel
theorem dX5_lose_4 : decode cX5_lose 4 = .ok (.iload_n 1, 1) := by decide +kernel
theorem dX5_lose_5 : decode cX5_lose 5 = .ok (.iaload, 1) := by decide +kernel
theorem dX5_lose_6 : decode cX5_lose 6 = .ok (.istore_n 2, 1) := by decide +kernel
theorem dX5_lose_7 : decode cX5_lose 7 = .ok (.aload_n 0, 1) := by decide +kernel
theorem dX5_lose_8 : decode cX5_lose 8 = .ok (.getfield 9, 3) := by decide +kernel
theorem dX5_lose_11 : decode cX5_lose 11 = .ok (.iload_n 1, 1) := by decide +kernel
theorem dX5_lose_12 : decode cX5_lose 12 = .ok (.iconst (-1), 1) := by decide +kernel
theorem dX5_lose_13 : decode cX5_lose 13 = .ok (.iastore, 1) := by decide +kernel
theorem dX5_lose_14 : decode cX5_lose 14 = .ok (.aload_n 0, 1) := by decide +kernel
theorem dX5_lose_15 : decode cX5_lose 15 = .ok (.getfield 13, 3) := by decide +kernel
theorem dX5_lose_18 : decode cX5_lose 18 = .ok (.iload_n 1, 1) := by decide +kernel
theorem dX5_lose_19 : decode cX5_lose 19 = .ok (.iconst 0, 1) := by decide +kernel
theorem dX5_lose_20 : decode cX5_lose 20 = .ok (.iastore, 1) := by decide +kernel
theorem dX5_lose_21 : decode cX5_lose 21 = .ok (.iload_n 2, 1) := by decide +kernel
theorem dX5_lose_22 : decode cX5_lose 22 = .ok (.ireturn, 1) := by decide +kernel
theorem dX5_item_0 : decode cX5_item 0 = .ok (.aload_n 0, 1) := by decide +kernel
theorem dX5_item_1 : decode cX5_item 1 = .ok (.getfield 16, 3) := by decide +kernel
theorem dX5_item_4 : decode cX5_item 4 = .ok (.iload_n 1, 1) := by decide +kernel
theorem dX5_item_5 : decode cX5_item 5 = .ok (.bipush 40, 2) := by decide +kernel
theorem dX5_item_7 : decode cX5_item 7 = .ok (.imul, 1) := by decide +kernel
theorem dX5_item_8 : decode cX5_item 8 = .ok (.iload_n 2, 1) := by decide +kernel
theorem dX5_item_9 : decode cX5_item 9 = .ok (.iadd, 1) := by decide +kernel
theorem dX5_item_10 : decode cX5_item 10 = .ok (.iaload, 1) := by decide +kernel
theorem dX5_item_11 : decode cX5_item 11 = .ok (.ireturn, 1) := by decide +kernel
theorem dX5_put_0 : decode cX5_put 0 = .ok (.aload_n 0, 1) := by decide +kernel
theorem dX5_put_1 : decode cX5_put 1 = .ok (.getfield 9, 3) := by decide +kernel
theorem dX5_put_4 : decode cX5_put 4 = .ok (.iload_n 1, 1) := by decide +kernel
theorem dX5_put_5 : decode cX5_put 5 = .ok (.iaload, 1) := by decide +kernel
theorem dX5_put_6 : decode cX5_put 6 = .ok (.iload_n 3, 1) := by decide +kernel
theorem dX5_put_7 : decode cX5_put 7 = .ok (.invokestatic 34, 3) := by decide +kernel
theorem dX5_put_10 : decode cX5_put 10 = .ok (.istore 4, 2) := by decide +kernel
theorem dX5_put_12 : decode cX5_put 12 = .ok (.aload_n 0, 1) := by decide +kernel
theorem dX5_put_13 : decode cX5_put 13 = .ok (.getfield 16, 3) := by decide +kernel
theorem dX5_put_16 : decode cX5_put 16 = .ok (.iload_n 1, 1) := by decide +kernel
theorem dX5_put_17 : decode cX5_put 17 = .ok (.bipush 40, 2) := by decide +kernel
theorem dX5_put_19 : decode cX5_put 19 = .ok (.imul, 1) := by decide +kernel
theorem dX5_put_20 : decode cX5_put 20 = .ok (.iload_n 2, 1) := by decide +kernel
theorem dX5_put_21 : decode cX5_put 21 = .ok (.iadd, 1) := by decide +kernel
theorem dX5_put_22 : decode cX5_put 22 = .ok (.iload 4, 2) := by decide +kernel
theorem dX5_put_24 : decode cX5_put 24 = .ok (.iastore, 1) := by decide +kernel
theorem dX5_put_25 : decode cX5_put 25 = .ok (.iload 4, 2) := by decide +kernel
theorem dX5_put_27 : decode cX5_put 27 = .ok (.ireturn, 1) := by decide +kernel
theorem dX5_move_0 : decode cX5_move 0 = .ok (.aload_n 0, 1) := by decide +kernel
theorem dX5_move_1 : decode cX5_move 1 = .ok (.getfield 16, 3) := by decide +kernel
theorem dX5_move_4 : decode cX5_move 4 = .ok (.iload_n 1, 1) := by decide +kernel
theorem dX5_move_5 : decode cX5_move 5 = .ok (.bipush 40, 2) := by decide +kernel
theorem dX5_move_7 : decode cX5_move 7 = .ok (.imul, 1) := by decide +kernel
theorem dX5_move_8 : decode cX5_move 8 = .ok (.iload_n 2, 1) := by decide +kernel
theorem dX5_move_9 : decode cX5_move 9 = .ok (.iadd, 1) := by decide +kernel
theorem dX5_move_10 : decode cX5_move 10 = .ok (.aload_n 0, 1) := by decide +kernel
theorem dX5_move_11 : decode cX5_move 11 = .ok (.getfield 16, 3) := by decide +kernel
theorem dX5_move_14 : decode cX5_move 14 = .ok (.iload_n 3, 1) := by decide +kernel
theorem dX5_move_15 : decode cX5_move 15 = .ok (.bipush 40, 2) := by decide +kernel
theorem dX5_move_17 : decode cX5_move 17 = .ok (.imul, 1) := by decide +kernel
theorem dX5_move_18 : decode cX5_move 18 = .ok (.iload 4, 2) := by decide +kernel
theorem dX5_move_20 : decode cX5_move 20 = .ok (.iadd, 1) := by decide +kernel
theorem dX5_move_21 : decode cX5_move 21 = .ok (.iload 5, 2) := by decide +kernel
theorem dX5_move_23 : decode cX5_move 23 = .ok (.invokestatic 38, 3) := by decide +kernel
theorem dX5_move_26 : decode cX5_move 26 = .ok (.return_, 1) := by decide +kernel
theorem dX5_areIn_0 : decode cX5_areIn 0 = .ok (.iconst 0, 1) := by decide +kernel
theorem dX5_areIn_1 : decode cX5_areIn 1 = .ok (.istore 6, 2) := by decide +kernel
theorem dX5_areIn_3 : decode cX5_areIn 3 = .ok (.iload 6, 2) := by decide +kernel
theorem dX5_areIn_5 : decode cX5_areIn 5 = .ok (.iload_n 3, 1) := by decide +kernel
theorem dX5_areIn_6 : decode cX5_areIn 6 = .ok (.if_icmp .ge 30, 3) := by decide +kernel
theorem dX5_areIn_9 : decode cX5_areIn 9 = .ok (.aload_n 0, 1) := by decide +kernel
theorem dX5_areIn_10 : decode cX5_areIn 10 = .ok (.iload_n 1, 1) := by decide +kernel
theorem dX5_areIn_11 : decode cX5_areIn 11 = .ok (.iload_n 2, 1) := by decide +kernel
theorem dX5_areIn_12 : decode cX5_areIn 12 = .ok (.iload 6, 2) := by decide +kernel
theorem dX5_areIn_14 : decode cX5_areIn 14 = .ok (.iadd, 1) := by decide +kernel
theorem dX5_areIn_15 : decode cX5_areIn 15 = .ok (.invokevirtual 44, 3) := by decide +kernel
theorem dX5_areIn_18 : decode cX5_areIn 18 = .ok (.iload 4, 2) := by decide +kernel
theorem dX5_areIn_20 : decode cX5_areIn 20 = .ok (.iload 5, 2) := by decide +kernel
theorem dX5_areIn_22 : decode cX5_areIn 22 = .ok (.invokestatic 25, 3) := by decide +kernel
theorem dX5_areIn_25 : decode cX5_areIn 25 = .ok (.ifCond .ne 5, 3) := by decide +kernel
theorem dX5_areIn_28 : decode cX5_areIn 28 = .ok (.iconst 0, 1) := by decide +kernel
theorem dX5_areIn_29 : decode cX5_areIn 29 = .ok (.ireturn, 1) := by decide +kernel
theorem dX5_areIn_30 : decode cX5_areIn 30 = .ok (.iinc 6 1, 3) := by decide +kernel
theorem dX5_areIn_33 : decode cX5_areIn 33 = .ok (.goto (-30), 3) := by decide +kernel
theorem dX5_areIn_36 : decode cX5_areIn 36 = .ok (.iconst 1, 1) := by decide +kernel
theorem dX5_areIn_37 : decode cX5_areIn 37 = .ok (.ireturn, 1) := by decide +kernel
theorem dX5_areUnlike_0 : decode cX5_areUnlike 0 = .ok (.iconst 0, 1) := by decide +kernel
theorem dX5_areUnlike_1 : decode cX5_areUnlike 1 = .ok (.istore_n 3, 1) := by decide +kernel
theorem dX5_areUnlike_2 : decode cX5_areUnlike 2 = .ok (.iload_n 3, 1) := by decide +kernel
theorem dX5_areUnlike_3 : decode cX5_areUnlike 3 = .ok (.iload_n 2, 1) := by decide +kernel
theorem dX5_areUnlike_4 : decode cX5_areUnlike 4 = .ok (.if_icmp .ge 42, 3) := by decide +kernel
theorem dX5_areUnlike_7 : decode cX5_areUnlike 7 = .ok (.iconst 0, 1) := by decide +kernel
theorem dX5_areUnlike_8 : decode cX5_areUnlike 8 = .ok (.istore 4, 2) := by decide +kernel
theorem dX5_areUnlike_10 : decode cX5_areUnlike 10 = .ok (.iload 4, 2) := by decide +kernel
theorem dX5_areUnlike_12 : decode cX5_areUnlike 12 = .ok (.iload_n 3, 1) := by decide +kernel
theorem dX5_areUnlike_13 : decode cX5_areUnlike 13 = .ok (.if_icmp .ge 27, 3) := by decide +kernel
theorem dX5_areUnlike_16 : decode cX5_areUnlike 16 = .ok (.aload_n 0, 1) := by decide +kernel
theorem dX5_areUnlike_17 : decode cX5_areUnlike 17 = .ok (.iload_n 1, 1) := by decide +kernel
theorem dX5_areUnlike_18 : decode cX5_areUnlike 18 = .ok (.iload_n 3, 1) := by decide +kernel
theorem dX5_areUnlike_19 : decode cX5_areUnlike 19 = .ok (.invokevirtual 44, 3) := by decide +kernel
theorem dX5_areUnlike_22 : decode cX5_areUnlike 22 = .ok (.aload_n 0, 1) := by decide +kernel
theorem dX5_areUnlike_23 : decode cX5_areUnlike 23 = .ok (.iload_n 1, 1) := by decide +kernel
theorem dX5_areUnlike_24 : decode cX5_areUnlike 24 = .ok (.iload 4, 2) := by decide +kernel
theorem dX5_areUnlike_26 : decode cX5_areUnlike 26 = .ok (.invokevirtual 44, 3) := by decide +kernel
theorem dX5_areUnlike_29 : decode cX5_areUnlike 29 = .ok (.if_icmp .ne 5, 3) := by decide +kernel
theorem dX5_areUnlike_32 : decode cX5_areUnlike 32 = .ok (.iconst 0, 1) := by decide +kernel
theorem dX5_areUnlike_33 : decode cX5_areUnlike 33 = .ok (.ireturn, 1) := by decide +kernel
theorem dX5_areUnlike_34 : decode cX5_areUnlike 34 = .ok (.iinc 4 1, 3) := by decide +kernel
theorem dX5_areUnlike_37 : decode cX5_areUnlike 37 = .ok (.goto (-27), 3) := by decide +kernel
theorem dX5_areUnlike_40 : decode cX5_areUnlike 40 = .ok (.iinc 3 1, 3) := by decide +kernel
theorem dX5_areUnlike_43 : decode cX5_areUnlike 43 = .ok (.goto (-41), 3) := by decide +kernel
theorem dX5_areUnlike_46 : decode cX5_areUnlike 46 = .ok (.iconst 1, 1) := by decide +kernel
theorem dX5_areUnlike_47 : decode cX5_areUnlike 47 = .ok (.ireturn, 1) := by decide +kernel
theorem dX5_firstItems_0 : decode cX5_firstItems 0 = .ok (.aload_n 0, 1) := by decide +kernel
theorem dX5_firstItems_1 : decode cX5_firstItems 1 = .ok (.getfield 16, 3) := by decide +kernel
theorem dX5_firstItems_4 : decode cX5_firstItems 4 = .ok (.iload_n 1, 1) := by decide +kernel
theorem dX5_firstItems_5 : decode cX5_firstItems 5 = .ok (.bipush 40, 2) := by decide +kernel
theorem dX5_firstItems_7 : decode cX5_firstItems 7 = .ok (.imul, 1) := by decide +kernel
theorem dX5_firstItems_8 : decode cX5_firstItems 8 = .ok (.iload_n 1, 1) := by decide +kernel
theorem dX5_firstItems_9 : decode cX5_firstItems 9 = .ok (.bipush 40, 2) := by decide +kernel
theorem dX5_firstItems_11 : decode cX5_firstItems 11 = .ok (.imul, 1) := by decide +kernel
theorem dX5_firstItems_12 : decode cX5_firstItems 12 = .ok (.iload_n 2, 1) := by decide +kernel
theorem dX5_firstItems_13 : decode cX5_firstItems 13 = .ok (.iadd, 1) := by decide +kernel
theorem dX5_firstItems_14 : decode cX5_firstItems 14 = .ok (.invokestatic 47, 3) := by decide +kernel
theorem dX5_firstItems_17 : decode cX5_firstItems 17 = .ok (.areturn, 1) := by decide +kernel
theorem dX5_howMany_0 : decode cX5_howMany 0 = .ok (.iconst 0, 1) := by decide +kernel
theorem dX5_howMany_1 : decode cX5_howMany 1 = .ok (.istore_n 1, 1) := by decide +kernel
theorem dX5_howMany_2 : decode cX5_howMany 2 = .ok (.iconst 0, 1) := by decide +kernel
theorem dX5_howMany_3 : decode cX5_howMany 3 = .ok (.istore_n 2, 1) := by decide +kernel
theorem dX5_howMany_4 : decode cX5_howMany 4 = .ok (.iload_n 2, 1) := by decide +kernel
theorem dX5_howMany_5 : decode cX5_howMany 5 = .ok (.bipush 8, 2) := by decide +kernel
theorem dX5_howMany_7 : decode cX5_howMany 7 = .ok (.if_icmp .ge 25, 3) := by decide +kernel
theorem dX5_howMany_10 : decode cX5_howMany 10 = .ok (.iload_n 1, 1) := by decide +kernel
theorem dX5_howMany_11 : decode cX5_howMany 11 = .ok (.aload_n 0, 1) := by decide +kernel
theorem dX5_howMany_12 : decode cX5_howMany 12 = .ok (.iload_n 2, 1) := by decide +kernel
theorem dX5_howMany_13 : decode cX5_howMany 13 = .ok (.invokevirtual 51, 3) := by decide +kernel
theorem dX5_howMany_16 : decode cX5_howMany 16 = .ok (.ifCond .eq 7, 3) := by decide +kernel
theorem dX5_howMany_19 : decode cX5_howMany 19 = .ok (.iconst 0, 1) := by decide +kernel
theorem dX5_howMany_20 : decode cX5_howMany 20 = .ok (.goto 4, 3) := by decide +kernel
theorem dX5_howMany_23 : decode cX5_howMany 23 = .ok (.iconst 1, 1) := by decide +kernel
theorem dX5_howMany_24 : decode cX5_howMany 24 = .ok (.iadd, 1) := by decide +kernel
theorem dX5_howMany_25 : decode cX5_howMany 25 = .ok (.istore_n 1, 1) := by decide +kernel
theorem dX5_howMany_26 : decode cX5_howMany 26 = .ok (.iinc 2 1, 3) := by decide +kernel
theorem dX5_howMany_29 : decode cX5_howMany 29 = .ok (.goto (-25), 3) := by decide +kernel
theorem dX5_howMany_32 : decode cX5_howMany 32 = .ok (.iload_n 1, 1) := by decide +kernel
theorem dX5_howMany_33 : decode cX5_howMany 33 = .ok (.ireturn, 1) := by decide +kernel
theorem dX5_cutToLane_0 : decode cX5_cutToLane 0 = .ok (.iload_n 0, 1) := by decide +kernel
theorem dX5_cutToLane_1 : decode cX5_cutToLane 1 = .ok (.lookupswitch 33 #[(0, 27), (1, 30)], 27) := by decide +kernel
theorem dX5_cutToLane_28 : decode cX5_cutToLane 28 = .ok (.iload_n 1, 1) := by decide +kernel
theorem dX5_cutToLane_29 : decode cX5_cutToLane 29 = .ok (.i2b, 1) := by decide +kernel
theorem dX5_cutToLane_30 : decode cX5_cutToLane 30 = .ok (.ireturn, 1) := by decide +kernel
theorem dX5_cutToLane_31 : decode cX5_cutToLane 31 = .ok (.iload_n 1, 1) := by decide +kernel
theorem dX5_cutToLane_32 : decode cX5_cutToLane 32 = .ok (.i2s, 1) := by decide +kernel
theorem dX5_cutToLane_33 : decode cX5_cutToLane 33 = .ok (.ireturn, 1) := by decide +kernel
theorem dX5_cutToLane_34 : decode cX5_cutToLane 34 = .ok (.iload_n 1, 1) := by decide +kernel
theorem dX5_cutToLane_35 : decode cX5_cutToLane 35 = .ok (.ireturn, 1) := by decide +kernel
theorem dX6_init_0 : decode cX6_init 0 = .ok (.aload_n 0, 1) := by decide +kernel
theorem dX6_init_1 : decode cX6_init 1 = .ok (.iload_n 1, 1) := by decide +kernel
theorem dX6_init_2 : decode cX6_init 2 = .ok (.iload_n 2, 1) := by decide +kernel
theorem dX6_init_3 : decode cX6_init 3 = .ok (.iload_n 3, 1) := by decide +kernel
theorem dX6_init_4 : decode cX6_init 4 = .ok (.aload 4, 2) := by decide +kernel
theorem dX6_init_6 : decode cX6_init 6 = .ok (.invokespecial 1, 3) := by decide +kernel
theorem dX6_init_9 : decode cX6_init 9 = .ok (.return_, 1) := by decide +kernel
theorem dX6_mark_0 : decode cX6_mark 0 = .ok (.aload_n 0, 1) := by decide +kernel
theorem dX6_mark_1 : decode cX6_mark 1 = .ok (.getfield 7, 3) := by decide +kernel
theorem dX6_mark_4 : decode cX6_mark 4 = .ok (.bipush 22, 2) := by decide +kernel
theorem dX6_mark_6 : decode cX6_mark 6 = .ok (.invokevirtual 13, 3) := by decide +kernel
theorem dX6_mark_9 : decode cX6_mark 9 = .ok (.aload_n 0, 1) := by decide +kernel
theorem dX6_mark_10 : decode cX6_mark 10 = .ok (.invokespecial 19, 3) := by decide +kernel
theorem dX6_mark_13 : decode cX6_mark 13 = .ok (.aload_n 0, 1) := by decide +kernel
theorem dX6_mark_14 : decode cX6_mark 14 = .ok (.invokevirtual 23, 3) := by decide +kernel
theorem dX6_mark_17 : decode cX6_mark 17 = .ok (.isub, 1) := by decide +kernel
theorem dX6_mark_18 : decode cX6_mark 18 = .ok (.ireturn, 1) := by decide +kernel
theorem dX7_init_0 : decode cX7_init 0 = .ok (.aload_n 0, 1) := by decide +kernel
theorem dX7_init_1 : decode cX7_init 1 = .ok (.iload_n 1, 1) := by decide +kernel
theorem dX7_init_2 : decode cX7_init 2 = .ok (.iload_n 2, 1) := by decide +kernel
theorem dX7_init_3 : decode cX7_init 3 = .ok (.iload_n 3, 1) := by decide +kernel
theorem dX7_init_4 : decode cX7_init 4 = .ok (.aload 4, 2) := by decide +kernel
theorem dX7_init_6 : decode cX7_init 6 = .ok (.invokespecial 1, 3) := by decide +kernel
theorem dX7_init_9 : decode cX7_init 9 = .ok (.return_, 1) := by decide +kernel
theorem dX7_size_0 : decode cX7_size 0 = .ok (.aload_n 0, 1) := by decide +kernel
theorem dX7_size_1 : decode cX7_size 1 = .ok (.getfield 7, 3) := by decide +kernel
theorem dX7_size_4 : decode cX7_size 4 = .ok (.bipush 14, 2) := by decide +kernel
theorem dX7_size_6 : decode cX7_size 6 = .ok (.invokevirtual 13, 3) := by decide +kernel
theorem dX7_size_9 : decode cX7_size 9 = .ok (.iconst 2, 1) := by decide +kernel
theorem dX7_size_10 : decode cX7_size 10 = .ok (.aload_n 0, 1) := by decide +kernel
theorem dX7_size_11 : decode cX7_size 11 = .ok (.invokespecial 19, 3) := by decide +kernel
theorem dX7_size_14 : decode cX7_size 14 = .ok (.imul, 1) := by decide +kernel
theorem dX7_size_15 : decode cX7_size 15 = .ok (.ireturn, 1) := by decide +kernel
theorem dX7_mark_0 : decode cX7_mark 0 = .ok (.aload_n 0, 1) := by decide +kernel
theorem dX7_mark_1 : decode cX7_mark 1 = .ok (.getfield 7, 3) := by decide +kernel
theorem dX7_mark_4 : decode cX7_mark 4 = .ok (.bipush 23, 2) := by decide +kernel
theorem dX7_mark_6 : decode cX7_mark 6 = .ok (.invokevirtual 13, 3) := by decide +kernel
theorem dX7_mark_9 : decode cX7_mark 9 = .ok (.aload_n 0, 1) := by decide +kernel
theorem dX7_mark_10 : decode cX7_mark 10 = .ok (.invokespecial 23, 3) := by decide +kernel
theorem dX7_mark_13 : decode cX7_mark 13 = .ok (.bipush 10, 2) := by decide +kernel
theorem dX7_mark_15 : decode cX7_mark 15 = .ok (.aload_n 0, 1) := by decide +kernel
theorem dX7_mark_16 : decode cX7_mark 16 = .ok (.invokevirtual 26, 3) := by decide +kernel
theorem dX7_mark_19 : decode cX7_mark 19 = .ok (.imul, 1) := by decide +kernel
theorem dX7_mark_20 : decode cX7_mark 20 = .ok (.iadd, 1) := by decide +kernel
theorem dX7_mark_21 : decode cX7_mark 21 = .ok (.ireturn, 1) := by decide +kernel
theorem dX8_init_0 : decode cX8_init 0 = .ok (.aload_n 0, 1) := by decide +kernel
theorem dX8_init_1 : decode cX8_init 1 = .ok (.invokespecial 1, 3) := by decide +kernel
theorem dX8_init_4 : decode cX8_init 4 = .ok (.aload_n 0, 1) := by decide +kernel
theorem dX8_init_5 : decode cX8_init 5 = .ok (.bipush 16, 2) := by decide +kernel
theorem dX8_init_7 : decode cX8_init 7 = .ok (.newarray .int, 2) := by decide +kernel
theorem dX8_init_9 : decode cX8_init 9 = .ok (.putfield 9, 3) := by decide +kernel
theorem dX8_init_12 : decode cX8_init 12 = .ok (.return_, 1) := by decide +kernel
theorem dX8_empty_0 : decode cX8_empty 0 = .ok (.aload_n 0, 1) := by decide +kernel
theorem dX8_empty_1 : decode cX8_empty 1 = .ok (.iconst 0, 1) := by decide +kernel
theorem dX8_empty_2 : decode cX8_empty 2 = .ok (.putfield 13, 3) := by decide +kernel
theorem dX8_empty_5 : decode cX8_empty 5 = .ok (.return_, 1) := by decide +kernel
theorem dX8_begin_0 : decode cX8_begin 0 = .ok (.aload_n 0, 1) := by decide +kernel
theorem dX8_begin_1 : decode cX8_begin 1 = .ok (.getfield 13, 3) := by decide +kernel
theorem dX8_begin_4 : decode cX8_begin 4 = .ok (.bipush 16, 2) := by decide +kernel
theorem dX8_begin_6 : decode cX8_begin 6 = .ok (.if_icmp .ge 23, 3) := by decide +kernel
theorem dX8_begin_9 : decode cX8_begin 9 = .ok (.aload_n 0, 1) := by decide +kernel
theorem dX8_begin_10 : decode cX8_begin 10 = .ok (.getfield 9, 3) := by decide +kernel
theorem dX8_begin_13 : decode cX8_begin 13 = .ok (.aload_n 0, 1) := by decide +kernel
theorem dX8_begin_14 : decode cX8_begin 14 = .ok (.getfield 13, 3) := by decide +kernel
theorem dX8_begin_17 : decode cX8_begin 17 = .ok (.iload_n 1, 1) := by decide +kernel
theorem dX8_begin_18 : decode cX8_begin 18 = .ok (.iastore, 1) := by decide +kernel
theorem dX8_begin_19 : decode cX8_begin 19 = .ok (.aload_n 0, 1) := by decide +kernel
theorem dX8_begin_20 : decode cX8_begin 20 = .ok (.dup, 1) := by decide +kernel
theorem dX8_begin_21 : decode cX8_begin 21 = .ok (.getfield 13, 3) := by decide +kernel
theorem dX8_begin_24 : decode cX8_begin 24 = .ok (.iconst 1, 1) := by decide +kernel
theorem dX8_begin_25 : decode cX8_begin 25 = .ok (.iadd, 1) := by decide +kernel
theorem dX8_begin_26 : decode cX8_begin 26 = .ok (.putfield 13, 3) := by decide +kernel
theorem dX8_begin_29 : decode cX8_begin 29 = .ok (.return_, 1) := by decide +kernel
theorem dX9_init_0 : decode cX9_init 0 = .ok (.aload_n 0, 1) := by decide +kernel
theorem dX9_init_1 : decode cX9_init 1 = .ok (.invokespecial 3, 3) := by decide +kernel
theorem dX9_init_4 : decode cX9_init 4 = .ok (.aload_n 0, 1) := by decide +kernel
theorem dX9_init_5 : decode cX9_init 5 = .ok (.bipush 10, 2) := by decide +kernel
theorem dX9_init_7 : decode cX9_init 7 = .ok (.newarray .int, 2) := by decide +kernel
theorem dX9_init_9 : decode cX9_init 9 = .ok (.putfield 11, 3) := by decide +kernel
theorem dX9_init_12 : decode cX9_init 12 = .ok (.aload_n 0, 1) := by decide +kernel
theorem dX9_init_13 : decode cX9_init 13 = .ok (.bipush 10, 2) := by decide +kernel
theorem dX9_init_15 : decode cX9_init 15 = .ok (.newarray .int, 2) := by decide +kernel
theorem dX9_init_17 : decode cX9_init 17 = .ok (.putfield 17, 3) := by decide +kernel
theorem dX9_init_20 : decode cX9_init 20 = .ok (.aload_n 0, 1) := by decide +kernel
theorem dX9_init_21 : decode cX9_init 21 = .ok (.bipush 10, 2) := by decide +kernel
theorem dX9_init_23 : decode cX9_init 23 = .ok (.newarray .boolean, 2) := by decide +kernel
theorem dX9_init_25 : decode cX9_init 25 = .ok (.putfield 20, 3) := by decide +kernel
theorem dX9_init_28 : decode cX9_init 28 = .ok (.aload_n 0, 1) := by decide +kernel
theorem dX9_init_29 : decode cX9_init 29 = .ok (.bipush 8, 2) := by decide +kernel
theorem dX9_init_31 : decode cX9_init 31 = .ok (.newarray .int, 2) := by decide +kernel
theorem dX9_init_33 : decode cX9_init 33 = .ok (.putfield 24, 3) := by decide +kernel
theorem dX9_init_36 : decode cX9_init 36 = .ok (.aload_n 0, 1) := by decide +kernel
theorem dX9_init_37 : decode cX9_init 37 = .ok (.bipush 8, 2) := by decide +kernel
theorem dX9_init_39 : decode cX9_init 39 = .ok (.newarray .boolean, 2) := by decide +kernel
theorem dX9_init_41 : decode cX9_init 41 = .ok (.putfield 27, 3) := by decide +kernel
theorem dX9_init_44 : decode cX9_init 44 = .ok (.aload_n 0, 1) := by decide +kernel
theorem dX9_init_45 : decode cX9_init 45 = .ok (.aload_n 1, 1) := by decide +kernel
theorem dX9_init_46 : decode cX9_init 46 = .ok (.putfield 30, 3) := by decide +kernel
theorem dX9_init_49 : decode cX9_init 49 = .ok (.return_, 1) := by decide +kernel
theorem dX9_begin_0 : decode cX9_begin 0 = .ok (.aload_n 0, 1) := by decide +kernel
theorem dX9_begin_1 : decode cX9_begin 1 = .ok (.aload_n 1, 1) := by decide +kernel
theorem dX9_begin_2 : decode cX9_begin 2 = .ok (.putfield 30, 3) := by decide +kernel
theorem dX9_begin_5 : decode cX9_begin 5 = .ok (.aload_n 0, 1) := by decide +kernel
theorem dX9_begin_6 : decode cX9_begin 6 = .ok (.iconst 0, 1) := by decide +kernel
theorem dX9_begin_7 : decode cX9_begin 7 = .ok (.putfield 34, 3) := by decide +kernel
theorem dX9_begin_10 : decode cX9_begin 10 = .ok (.iconst 0, 1) := by decide +kernel
theorem dX9_begin_11 : decode cX9_begin 11 = .ok (.istore_n 2, 1) := by decide +kernel
theorem dX9_begin_12 : decode cX9_begin 12 = .ok (.iload_n 2, 1) := by decide +kernel
theorem dX9_begin_13 : decode cX9_begin 13 = .ok (.bipush 10, 2) := by decide +kernel
theorem dX9_begin_15 : decode cX9_begin 15 = .ok (.if_icmp .ge 35, 3) := by decide +kernel
theorem dX9_begin_18 : decode cX9_begin 18 = .ok (.aload_n 0, 1) := by decide +kernel
end
section
theorem dX9_begin_19 : decode cX9_begin 19 = .ok (.getfield 11, 3) := by decide +kernel
theorem dX9_begin_22 : decode cX9_begin 22 = .ok (.iload_n 2, 1) := by decide +kernel
theorem dX9_begin_23 : decode cX9_begin 23 = .ok (.aload_n 1, 1) := by decide +kernel
theorem dX9_begin_24 : decode cX9_begin 24 = .ok (.getfield 38, 3) := by decide +kernel
theorem dX9_begin_27 : decode cX9_begin 27 = .ok (.iload_n 2, 1) := by decide +kernel
theorem dX9_begin_28 : decode cX9_begin 28 = .ok (.iaload, 1) := by decide +kernel
theorem dX9_begin_29 : decode cX9_begin 29 = .ok (.iastore, 1) := by decide +kernel
theorem dX9_begin_30 : decode cX9_begin 30 = .ok (.aload_n 0, 1) := by decide +kernel
theorem dX9_begin_31 : decode cX9_begin 31 = .ok (.getfield 17, 3) := by decide +kernel
theorem dX9_begin_34 : decode cX9_begin 34 = .ok (.iload_n 2, 1) := by decide +kernel
theorem dX9_begin_35 : decode cX9_begin 35 = .ok (.iconst (-1), 1) := by decide +kernel
theorem dX9_begin_36 : decode cX9_begin 36 = .ok (.iastore, 1) := by decide +kernel
theorem dX9_begin_37 : decode cX9_begin 37 = .ok (.aload_n 0, 1) := by decide +kernel
theorem dX9_begin_38 : decode cX9_begin 38 = .ok (.getfield 20, 3) := by decide +kernel
theorem dX9_begin_41 : decode cX9_begin 41 = .ok (.iload_n 2, 1) := by decide +kernel
theorem dX9_begin_42 : decode cX9_begin 42 = .ok (.iconst 0, 1) := by decide +kernel
theorem dX9_begin_43 : decode cX9_begin 43 = .ok (.bastore, 1) := by decide +kernel
theorem dX9_begin_44 : decode cX9_begin 44 = .ok (.iinc 2 1, 3) := by decide +kernel
theorem dX9_begin_47 : decode cX9_begin 47 = .ok (.goto (-35), 3) := by decide +kernel
theorem dX9_begin_50 : decode cX9_begin 50 = .ok (.return_, 1) := by decide +kernel
theorem dX9_become_0 : decode cX9_become 0 = .ok (.aload_n 0, 1) := by decide +kernel
theorem dX9_become_1 : decode cX9_become 1 = .ok (.aload_n 1, 1) := by decide +kernel
theorem dX9_become_2 : decode cX9_become 2 = .ok (.getfield 30, 3) := by decide +kernel
theorem dX9_become_5 : decode cX9_become 5 = .ok (.putfield 30, 3) := by decide +kernel
theorem dX9_become_8 : decode cX9_become 8 = .ok (.aload_n 0, 1) := by decide +kernel
theorem dX9_become_9 : decode cX9_become 9 = .ok (.aload_n 1, 1) := by decide +kernel
theorem dX9_become_10 : decode cX9_become 10 = .ok (.getfield 34, 3) := by decide +kernel
theorem dX9_become_13 : decode cX9_become 13 = .ok (.putfield 34, 3) := by decide +kernel
theorem dX9_become_16 : decode cX9_become 16 = .ok (.iconst 0, 1) := by decide +kernel
theorem dX9_become_17 : decode cX9_become 17 = .ok (.istore_n 2, 1) := by decide +kernel
theorem dX9_become_18 : decode cX9_become 18 = .ok (.iload_n 2, 1) := by decide +kernel
theorem dX9_become_19 : decode cX9_become 19 = .ok (.bipush 10, 2) := by decide +kernel
theorem dX9_become_21 : decode cX9_become 21 = .ok (.if_icmp .ge 45, 3) := by decide +kernel
theorem dX9_become_24 : decode cX9_become 24 = .ok (.aload_n 0, 1) := by decide +kernel
theorem dX9_become_25 : decode cX9_become 25 = .ok (.getfield 11, 3) := by decide +kernel
theorem dX9_become_28 : decode cX9_become 28 = .ok (.iload_n 2, 1) := by decide +kernel
theorem dX9_become_29 : decode cX9_become 29 = .ok (.aload_n 1, 1) := by decide +kernel
theorem dX9_become_30 : decode cX9_become 30 = .ok (.getfield 11, 3) := by decide +kernel
theorem dX9_become_33 : decode cX9_become 33 = .ok (.iload_n 2, 1) := by decide +kernel
theorem dX9_become_34 : decode cX9_become 34 = .ok (.iaload, 1) := by decide +kernel
theorem dX9_become_35 : decode cX9_become 35 = .ok (.iastore, 1) := by decide +kernel
theorem dX9_become_36 : decode cX9_become 36 = .ok (.aload_n 0, 1) := by decide +kernel
theorem dX9_become_37 : decode cX9_become 37 = .ok (.getfield 17, 3) := by decide +kernel
theorem dX9_become_40 : decode cX9_become 40 = .ok (.iload_n 2, 1) := by decide +kernel
theorem dX9_become_41 : decode cX9_become 41 = .ok (.aload_n 1, 1) := by decide +kernel
theorem dX9_become_42 : decode cX9_become 42 = .ok (.getfield 17, 3) := by decide +kernel
theorem dX9_become_45 : decode cX9_become 45 = .ok (.iload_n 2, 1) := by decide +kernel
theorem dX9_become_46 : decode cX9_become 46 = .ok (.iaload, 1) := by decide +kernel
theorem dX9_become_47 : decode cX9_become 47 = .ok (.iastore, 1) := by decide +kernel
theorem dX9_become_48 : decode cX9_become 48 = .ok (.aload_n 0, 1) := by decide +kernel
theorem dX9_become_49 : decode cX9_become 49 = .ok (.getfield 20, 3) := by decide +kernel
theorem dX9_become_52 : decode cX9_become 52 = .ok (.iload_n 2, 1) := by decide +kernel
theorem dX9_become_53 : decode cX9_become 53 = .ok (.aload_n 1, 1) := by decide +kernel
theorem dX9_become_54 : decode cX9_become 54 = .ok (.getfield 20, 3) := by decide +kernel
theorem dX9_become_57 : decode cX9_become 57 = .ok (.iload_n 2, 1) := by decide +kernel
theorem dX9_become_58 : decode cX9_become 58 = .ok (.baload, 1) := by decide +kernel
theorem dX9_become_59 : decode cX9_become 59 = .ok (.bastore, 1) := by decide +kernel
theorem dX9_become_60 : decode cX9_become 60 = .ok (.iinc 2 1, 3) := by decide +kernel
theorem dX9_become_63 : decode cX9_become 63 = .ok (.goto (-45), 3) := by decide +kernel
theorem dX9_become_66 : decode cX9_become 66 = .ok (.return_, 1) := by decide +kernel
theorem dX9_quarterNow_0 : decode cX9_quarterNow 0 = .ok (.aload_n 0, 1) := by decide +kernel
theorem dX9_quarterNow_1 : decode cX9_quarterNow 1 = .ok (.getfield 34, 3) := by decide +kernel
theorem dX9_quarterNow_4 : decode cX9_quarterNow 4 = .ok (.bipush 24, 2) := by decide +kernel
theorem dX9_quarterNow_6 : decode cX9_quarterNow 6 = .ok (.invokestatic 41, 3) := by decide +kernel
theorem dX9_quarterNow_9 : decode cX9_quarterNow 9 = .ok (.ireturn, 1) := by decide +kernel
theorem dX9_isHung_0 : decode cX9_isHung 0 = .ok (.aload_n 0, 1) := by decide +kernel
theorem dX9_isHung_1 : decode cX9_isHung 1 = .ok (.getfield 17, 3) := by decide +kernel
theorem dX9_isHung_4 : decode cX9_isHung 4 = .ok (.iload_n 1, 1) := by decide +kernel
theorem dX9_isHung_5 : decode cX9_isHung 5 = .ok (.iaload, 1) := by decide +kernel
theorem dX9_isHung_6 : decode cX9_isHung 6 = .ok (.iconst (-1), 1) := by decide +kernel
theorem dX9_isHung_7 : decode cX9_isHung 7 = .ok (.if_icmp .eq 7, 3) := by decide +kernel
theorem dX9_isHung_10 : decode cX9_isHung 10 = .ok (.iconst 1, 1) := by decide +kernel
theorem dX9_isHung_11 : decode cX9_isHung 11 = .ok (.goto 4, 3) := by decide +kernel
theorem dX9_isHung_14 : decode cX9_isHung 14 = .ok (.iconst 0, 1) := by decide +kernel
theorem dX9_isHung_15 : decode cX9_isHung 15 = .ok (.ireturn, 1) := by decide +kernel
theorem dX9_putUp_0 : decode cX9_putUp 0 = .ok (.aload_n 0, 1) := by decide +kernel
theorem dX9_putUp_1 : decode cX9_putUp 1 = .ok (.getfield 17, 3) := by decide +kernel
theorem dX9_putUp_4 : decode cX9_putUp 4 = .ok (.iload_n 1, 1) := by decide +kernel
theorem dX9_putUp_5 : decode cX9_putUp 5 = .ok (.iload_n 2, 1) := by decide +kernel
theorem dX9_putUp_6 : decode cX9_putUp 6 = .ok (.iastore, 1) := by decide +kernel
theorem dX9_putUp_7 : decode cX9_putUp 7 = .ok (.return_, 1) := by decide +kernel
theorem dX9_takeDown_0 : decode cX9_takeDown 0 = .ok (.aload_n 0, 1) := by decide +kernel
theorem dX9_takeDown_1 : decode cX9_takeDown 1 = .ok (.getfield 17, 3) := by decide +kernel
theorem dX9_takeDown_4 : decode cX9_takeDown 4 = .ok (.iload_n 1, 1) := by decide +kernel
theorem dX9_takeDown_5 : decode cX9_takeDown 5 = .ok (.iaload, 1) := by decide +kernel
theorem dX9_takeDown_6 : decode cX9_takeDown 6 = .ok (.istore_n 2, 1) := by decide +kernel
theorem dX9_takeDown_7 : decode cX9_takeDown 7 = .ok (.aload_n 0, 1) := by decide +kernel
theorem dX9_takeDown_8 : decode cX9_takeDown 8 = .ok (.getfield 17, 3) := by decide +kernel
theorem dX9_takeDown_11 : decode cX9_takeDown 11 = .ok (.iload_n 1, 1) := by decide +kernel
theorem dX9_takeDown_12 : decode cX9_takeDown 12 = .ok (.iconst (-1), 1) := by decide +kernel
theorem dX9_takeDown_13 : decode cX9_takeDown 13 = .ok (.iastore, 1) := by decide +kernel
theorem dX9_takeDown_14 : decode cX9_takeDown 14 = .ok (.iload_n 2, 1) := by decide +kernel
theorem dX9_takeDown_15 : decode cX9_takeDown 15 = .ok (.ireturn, 1) := by decide +kernel
theorem dX9_takeAllDown_0 : decode cX9_takeAllDown 0 = .ok (.iconst 0, 1) := by decide +kernel
theorem dX9_takeAllDown_1 : decode cX9_takeAllDown 1 = .ok (.istore_n 1, 1) := by decide +kernel
theorem dX9_takeAllDown_2 : decode cX9_takeAllDown 2 = .ok (.iload_n 1, 1) := by decide +kernel
theorem dX9_takeAllDown_3 : decode cX9_takeAllDown 3 = .ok (.aload_n 0, 1) := by decide +kernel
theorem dX9_takeAllDown_4 : decode cX9_takeAllDown 4 = .ok (.getfield 30, 3) := by decide +kernel
theorem dX9_takeAllDown_7 : decode cX9_takeAllDown 7 = .ok (.getfield 47, 3) := by decide +kernel
theorem dX9_takeAllDown_10 : decode cX9_takeAllDown 10 = .ok (.if_icmp .ge 15, 3) := by decide +kernel
theorem dX9_takeAllDown_13 : decode cX9_takeAllDown 13 = .ok (.aload_n 0, 1) := by decide +kernel
theorem dX9_takeAllDown_14 : decode cX9_takeAllDown 14 = .ok (.iload_n 1, 1) := by decide +kernel
theorem dX9_takeAllDown_15 : decode cX9_takeAllDown 15 = .ok (.invokevirtual 50, 3) := by decide +kernel
theorem dX9_takeAllDown_18 : decode cX9_takeAllDown 18 = .ok (.pop, 1) := by decide +kernel
theorem dX9_takeAllDown_19 : decode cX9_takeAllDown 19 = .ok (.iinc 1 1, 3) := by decide +kernel
theorem dX9_takeAllDown_22 : decode cX9_takeAllDown 22 = .ok (.goto (-20), 3) := by decide +kernel
theorem dX9_takeAllDown_25 : decode cX9_takeAllDown 25 = .ok (.return_, 1) := by decide +kernel
theorem dX9_bitsOn_0 : decode cX9_bitsOn 0 = .ok (.iconst 0, 1) := by decide +kernel
theorem dX9_bitsOn_1 : decode cX9_bitsOn 1 = .ok (.istore_n 2, 1) := by decide +kernel
theorem dX9_bitsOn_2 : decode cX9_bitsOn 2 = .ok (.iconst 0, 1) := by decide +kernel
theorem dX9_bitsOn_3 : decode cX9_bitsOn 3 = .ok (.istore_n 3, 1) := by decide +kernel
theorem dX9_bitsOn_4 : decode cX9_bitsOn 4 = .ok (.iload_n 3, 1) := by decide +kernel
theorem dX9_bitsOn_5 : decode cX9_bitsOn 5 = .ok (.aload_n 0, 1) := by decide +kernel
theorem dX9_bitsOn_6 : decode cX9_bitsOn 6 = .ok (.getfield 30, 3) := by decide +kernel
theorem dX9_bitsOn_9 : decode cX9_bitsOn 9 = .ok (.getfield 47, 3) := by decide +kernel
theorem dX9_bitsOn_12 : decode cX9_bitsOn 12 = .ok (.if_icmp .ge 25, 3) := by decide +kernel
theorem dX9_bitsOn_15 : decode cX9_bitsOn 15 = .ok (.aload_n 0, 1) := by decide +kernel
theorem dX9_bitsOn_16 : decode cX9_bitsOn 16 = .ok (.getfield 17, 3) := by decide +kernel
theorem dX9_bitsOn_19 : decode cX9_bitsOn 19 = .ok (.iload_n 3, 1) := by decide +kernel
theorem dX9_bitsOn_20 : decode cX9_bitsOn 20 = .ok (.iaload, 1) := by decide +kernel
theorem dX9_bitsOn_21 : decode cX9_bitsOn 21 = .ok (.iload_n 1, 1) := by decide +kernel
theorem dX9_bitsOn_22 : decode cX9_bitsOn 22 = .ok (.if_icmp .ne 9, 3) := by decide +kernel
theorem dX9_bitsOn_25 : decode cX9_bitsOn 25 = .ok (.iload_n 2, 1) := by decide +kernel
theorem dX9_bitsOn_26 : decode cX9_bitsOn 26 = .ok (.iconst 1, 1) := by decide +kernel
theorem dX9_bitsOn_27 : decode cX9_bitsOn 27 = .ok (.iload_n 3, 1) := by decide +kernel
theorem dX9_bitsOn_28 : decode cX9_bitsOn 28 = .ok (.ishl, 1) := by decide +kernel
theorem dX9_bitsOn_29 : decode cX9_bitsOn 29 = .ok (.ior, 1) := by decide +kernel
theorem dX9_bitsOn_30 : decode cX9_bitsOn 30 = .ok (.istore_n 2, 1) := by decide +kernel
theorem dX9_bitsOn_31 : decode cX9_bitsOn 31 = .ok (.iinc 3 1, 3) := by decide +kernel
theorem dX9_bitsOn_34 : decode cX9_bitsOn 34 = .ok (.goto (-30), 3) := by decide +kernel
theorem dX9_bitsOn_37 : decode cX9_bitsOn 37 = .ok (.iload_n 2, 1) := by decide +kernel
theorem dX9_bitsOn_38 : decode cX9_bitsOn 38 = .ok (.ireturn, 1) := by decide +kernel
theorem dX9_hungBits_0 : decode cX9_hungBits 0 = .ok (.iconst 0, 1) := by decide +kernel
theorem dX9_hungBits_1 : decode cX9_hungBits 1 = .ok (.istore_n 1, 1) := by decide +kernel
theorem dX9_hungBits_2 : decode cX9_hungBits 2 = .ok (.iconst 0, 1) := by decide +kernel
theorem dX9_hungBits_3 : decode cX9_hungBits 3 = .ok (.istore_n 2, 1) := by decide +kernel
theorem dX9_hungBits_4 : decode cX9_hungBits 4 = .ok (.iload_n 2, 1) := by decide +kernel
theorem dX9_hungBits_5 : decode cX9_hungBits 5 = .ok (.aload_n 0, 1) := by decide +kernel
theorem dX9_hungBits_6 : decode cX9_hungBits 6 = .ok (.getfield 30, 3) := by decide +kernel
theorem dX9_hungBits_9 : decode cX9_hungBits 9 = .ok (.getfield 47, 3) := by decide +kernel
theorem dX9_hungBits_12 : decode cX9_hungBits 12 = .ok (.if_icmp .ge 23, 3) := by decide +kernel
theorem dX9_hungBits_15 : decode cX9_hungBits 15 = .ok (.aload_n 0, 1) := by decide +kernel
theorem dX9_hungBits_16 : decode cX9_hungBits 16 = .ok (.iload_n 2, 1) := by decide +kernel
theorem dX9_hungBits_17 : decode cX9_hungBits 17 = .ok (.invokevirtual 54, 3) := by decide +kernel
theorem dX9_hungBits_20 : decode cX9_hungBits 20 = .ok (.ifCond .eq 9, 3) := by decide +kernel
theorem dX9_hungBits_23 : decode cX9_hungBits 23 = .ok (.iload_n 1, 1) := by decide +kernel
theorem dX9_hungBits_24 : decode cX9_hungBits 24 = .ok (.iconst 1, 1) := by decide +kernel
theorem dX9_hungBits_25 : decode cX9_hungBits 25 = .ok (.iload_n 2, 1) := by decide +kernel
theorem dX9_hungBits_26 : decode cX9_hungBits 26 = .ok (.ishl, 1) := by decide +kernel
theorem dX9_hungBits_27 : decode cX9_hungBits 27 = .ok (.ior, 1) := by decide +kernel
theorem dX9_hungBits_28 : decode cX9_hungBits 28 = .ok (.istore_n 1, 1) := by decide +kernel
theorem dX9_hungBits_29 : decode cX9_hungBits 29 = .ok (.iinc 2 1, 3) := by decide +kernel
theorem dX9_hungBits_32 : decode cX9_hungBits 32 = .ok (.goto (-28), 3) := by decide +kernel
theorem dX9_hungBits_35 : decode cX9_hungBits 35 = .ok (.iload_n 1, 1) := by decide +kernel
theorem dX9_hungBits_36 : decode cX9_hungBits 36 = .ok (.ireturn, 1) := by decide +kernel
theorem dX9_howManyStained_0 : decode cX9_howManyStained 0 = .ok (.iconst 0, 1) := by decide +kernel
theorem dX9_howManyStained_1 : decode cX9_howManyStained 1 = .ok (.istore_n 1, 1) := by decide +kernel
theorem dX9_howManyStained_2 : decode cX9_howManyStained 2 = .ok (.iconst 0, 1) := by decide +kernel
theorem dX9_howManyStained_3 : decode cX9_howManyStained 3 = .ok (.istore_n 2, 1) := by decide +kernel
theorem dX9_howManyStained_4 : decode cX9_howManyStained 4 = .ok (.iload_n 2, 1) := by decide +kernel
theorem dX9_howManyStained_5 : decode cX9_howManyStained 5 = .ok (.aload_n 0, 1) := by decide +kernel
theorem dX9_howManyStained_6 : decode cX9_howManyStained 6 = .ok (.getfield 30, 3) := by decide +kernel
theorem dX9_howManyStained_9 : decode cX9_howManyStained 9 = .ok (.getfield 47, 3) := by decide +kernel
theorem dX9_howManyStained_12 : decode cX9_howManyStained 12 = .ok (.if_icmp .ge 26, 3) := by decide +kernel
theorem dX9_howManyStained_15 : decode cX9_howManyStained 15 = .ok (.iload_n 1, 1) := by decide +kernel
theorem dX9_howManyStained_16 : decode cX9_howManyStained 16 = .ok (.aload_n 0, 1) := by decide +kernel
theorem dX9_howManyStained_17 : decode cX9_howManyStained 17 = .ok (.getfield 20, 3) := by decide +kernel
theorem dX9_howManyStained_20 : decode cX9_howManyStained 20 = .ok (.iload_n 2, 1) := by decide +kernel
theorem dX9_howManyStained_21 : decode cX9_howManyStained 21 = .ok (.baload, 1) := by decide +kernel
theorem dX9_howManyStained_22 : decode cX9_howManyStained 22 = .ok (.ifCond .eq 7, 3) := by decide +kernel
theorem dX9_howManyStained_25 : decode cX9_howManyStained 25 = .ok (.iconst 1, 1) := by decide +kernel
theorem dX9_howManyStained_26 : decode cX9_howManyStained 26 = .ok (.goto 4, 3) := by decide +kernel
theorem dX9_howManyStained_29 : decode cX9_howManyStained 29 = .ok (.iconst 0, 1) := by decide +kernel
theorem dX9_howManyStained_30 : decode cX9_howManyStained 30 = .ok (.iadd, 1) := by decide +kernel
theorem dX9_howManyStained_31 : decode cX9_howManyStained 31 = .ok (.istore_n 1, 1) := by decide +kernel
theorem dX9_howManyStained_32 : decode cX9_howManyStained 32 = .ok (.iinc 2 1, 3) := by decide +kernel
theorem dX9_howManyStained_35 : decode cX9_howManyStained 35 = .ok (.goto (-31), 3) := by decide +kernel
theorem dX9_howManyStained_38 : decode cX9_howManyStained 38 = .ok (.iload_n 1, 1) := by decide +kernel
theorem dX9_howManyStained_39 : decode cX9_howManyStained 39 = .ok (.ireturn, 1) := by decide +kernel
theorem dX9_refusal_0 : decode cX9_refusal 0 = .ok (.aload_n 0, 1) := by decide +kernel
theorem dX9_refusal_1 : decode cX9_refusal 1 = .ok (.iload_n 1, 1) := by decide +kernel
theorem dX9_refusal_2 : decode cX9_refusal 2 = .ok (.invokevirtual 54, 3) := by decide +kernel
theorem dX9_refusal_5 : decode cX9_refusal 5 = .ok (.ifCond .ne 12, 3) := by decide +kernel
theorem dX9_refusal_8 : decode cX9_refusal 8 = .ok (.aload_n 0, 1) := by decide +kernel
theorem dX9_refusal_9 : decode cX9_refusal 9 = .ok (.iload_n 1, 1) := by decide +kernel
theorem dX9_refusal_10 : decode cX9_refusal 10 = .ok (.iload_n 2, 1) := by decide +kernel
theorem dX9_refusal_11 : decode cX9_refusal 11 = .ok (.invokevirtual 58, 3) := by decide +kernel
theorem dX9_refusal_14 : decode cX9_refusal 14 = .ok (.ifCond .eq 6, 3) := by decide +kernel
theorem dX9_refusal_17 : decode cX9_refusal 17 = .ok (.ldc 62, 2) := by decide +kernel
theorem dX9_refusal_19 : decode cX9_refusal 19 = .ok (.ireturn, 1) := by decide +kernel
theorem dX9_refusal_20 : decode cX9_refusal 20 = .ok (.aload_n 0, 1) := by decide +kernel
theorem dX9_refusal_21 : decode cX9_refusal 21 = .ok (.iload_n 1, 1) := by decide +kernel
theorem dX9_refusal_22 : decode cX9_refusal 22 = .ok (.iload_n 2, 1) := by decide +kernel
theorem dX9_refusal_23 : decode cX9_refusal 23 = .ok (.invokevirtual 63, 3) := by decide +kernel
theorem dX9_refusal_26 : decode cX9_refusal 26 = .ok (.ifCond .eq 7, 3) := by decide +kernel
theorem dX9_refusal_29 : decode cX9_refusal 29 = .ok (.iconst 0, 1) := by decide +kernel
theorem dX9_refusal_30 : decode cX9_refusal 30 = .ok (.goto 5, 3) := by decide +kernel
theorem dX9_refusal_33 : decode cX9_refusal 33 = .ok (.ldc 66, 2) := by decide +kernel
theorem dX9_refusal_35 : decode cX9_refusal 35 = .ok (.ireturn, 1) := by decide +kernel
theorem dX9_isOfOthers_0 : decode cX9_isOfOthers 0 = .ok (.aload_n 0, 1) := by decide +kernel
theorem dX9_isOfOthers_1 : decode cX9_isOfOthers 1 = .ok (.getfield 30, 3) := by decide +kernel
theorem dX9_isOfOthers_4 : decode cX9_isOfOthers 4 = .ok (.iload_n 2, 1) := by decide +kernel
theorem dX9_isOfOthers_5 : decode cX9_isOfOthers 5 = .ok (.aload_n 0, 1) := by decide +kernel
theorem dX9_isOfOthers_6 : decode cX9_isOfOthers 6 = .ok (.invokevirtual 67, 3) := by decide +kernel
theorem dX9_isOfOthers_9 : decode cX9_isOfOthers 9 = .ok (.invokevirtual 71, 3) := by decide +kernel
theorem dX9_isOfOthers_12 : decode cX9_isOfOthers 12 = .ok (.istore_n 3, 1) := by decide +kernel
theorem dX9_isOfOthers_13 : decode cX9_isOfOthers 13 = .ok (.iload_n 3, 1) := by decide +kernel
theorem dX9_isOfOthers_14 : decode cX9_isOfOthers 14 = .ok (.ifCond .eq 23, 3) := by decide +kernel
theorem dX9_isOfOthers_17 : decode cX9_isOfOthers 17 = .ok (.iload_n 3, 1) := by decide +kernel
theorem dX9_isOfOthers_18 : decode cX9_isOfOthers 18 = .ok (.aload_n 0, 1) := by decide +kernel
theorem dX9_isOfOthers_19 : decode cX9_isOfOthers 19 = .ok (.getfield 30, 3) := by decide +kernel
theorem dX9_isOfOthers_22 : decode cX9_isOfOthers 22 = .ok (.getfield 74, 3) := by decide +kernel
theorem dX9_isOfOthers_25 : decode cX9_isOfOthers 25 = .ok (.iload_n 1, 1) := by decide +kernel
theorem dX9_isOfOthers_26 : decode cX9_isOfOthers 26 = .ok (.iaload, 1) := by decide +kernel
theorem dX9_isOfOthers_27 : decode cX9_isOfOthers 27 = .ok (.ishr, 1) := by decide +kernel
theorem dX9_isOfOthers_28 : decode cX9_isOfOthers 28 = .ok (.iconst 1, 1) := by decide +kernel
theorem dX9_isOfOthers_29 : decode cX9_isOfOthers 29 = .ok (.iand, 1) := by decide +kernel
theorem dX9_isOfOthers_30 : decode cX9_isOfOthers 30 = .ok (.ifCond .ne 7, 3) := by decide +kernel
theorem dX9_isOfOthers_33 : decode cX9_isOfOthers 33 = .ok (.iconst 1, 1) := by decide +kernel
theorem dX9_isOfOthers_34 : decode cX9_isOfOthers 34 = .ok (.goto 4, 3) := by decide +kernel
theorem dX9_isOfOthers_37 : decode cX9_isOfOthers 37 = .ok (.iconst 0, 1) := by decide +kernel
theorem dX9_isOfOthers_38 : decode cX9_isOfOthers 38 = .ok (.ireturn, 1) := by decide +kernel
theorem dX9_hasRoomFor_0 : decode cX9_hasRoomFor 0 = .ok (.aload_n 0, 1) := by decide +kernel
theorem dX9_hasRoomFor_1 : decode cX9_hasRoomFor 1 = .ok (.getfield 30, 3) := by decide +kernel
theorem dX9_hasRoomFor_4 : decode cX9_hasRoomFor 4 = .ok (.getfield 77, 3) := by decide +kernel
theorem dX9_hasRoomFor_7 : decode cX9_hasRoomFor 7 = .ok (.iload_n 1, 1) := by decide +kernel
theorem dX9_hasRoomFor_8 : decode cX9_hasRoomFor 8 = .ok (.iaload, 1) := by decide +kernel
theorem dX9_hasRoomFor_9 : decode cX9_hasRoomFor 9 = .ok (.istore_n 3, 1) := by decide +kernel
theorem dX9_hasRoomFor_10 : decode cX9_hasRoomFor 10 = .ok (.iconst 0, 1) := by decide +kernel
theorem dX9_hasRoomFor_11 : decode cX9_hasRoomFor 11 = .ok (.istore 4, 2) := by decide +kernel
theorem dX9_hasRoomFor_13 : decode cX9_hasRoomFor 13 = .ok (.iload 4, 2) := by decide +kernel
theorem dX9_hasRoomFor_15 : decode cX9_hasRoomFor 15 = .ok (.aload_n 0, 1) := by decide +kernel
theorem dX9_hasRoomFor_16 : decode cX9_hasRoomFor 16 = .ok (.getfield 30, 3) := by decide +kernel
theorem dX9_hasRoomFor_19 : decode cX9_hasRoomFor 19 = .ok (.getfield 47, 3) := by decide +kernel
theorem dX9_hasRoomFor_22 : decode cX9_hasRoomFor 22 = .ok (.if_icmp .ge 65, 3) := by decide +kernel
theorem dX9_hasRoomFor_25 : decode cX9_hasRoomFor 25 = .ok (.aload_n 0, 1) := by decide +kernel
theorem dX9_hasRoomFor_26 : decode cX9_hasRoomFor 26 = .ok (.getfield 17, 3) := by decide +kernel
theorem dX9_hasRoomFor_29 : decode cX9_hasRoomFor 29 = .ok (.iload 4, 2) := by decide +kernel
theorem dX9_hasRoomFor_31 : decode cX9_hasRoomFor 31 = .ok (.iaload, 1) := by decide +kernel
theorem dX9_hasRoomFor_32 : decode cX9_hasRoomFor 32 = .ok (.iload_n 2, 1) := by decide +kernel
theorem dX9_hasRoomFor_33 : decode cX9_hasRoomFor 33 = .ok (.if_icmp .eq 6, 3) := by decide +kernel
theorem dX9_hasRoomFor_36 : decode cX9_hasRoomFor 36 = .ok (.goto 45, 3) := by decide +kernel
theorem dX9_hasRoomFor_39 : decode cX9_hasRoomFor 39 = .ok (.aload_n 0, 1) := by decide +kernel
theorem dX9_hasRoomFor_40 : decode cX9_hasRoomFor 40 = .ok (.getfield 30, 3) := by decide +kernel
theorem dX9_hasRoomFor_43 : decode cX9_hasRoomFor 43 = .ok (.getfield 80, 3) := by decide +kernel
theorem dX9_hasRoomFor_46 : decode cX9_hasRoomFor 46 = .ok (.iload 4, 2) := by decide +kernel
theorem dX9_hasRoomFor_48 : decode cX9_hasRoomFor 48 = .ok (.iaload, 1) := by decide +kernel
theorem dX9_hasRoomFor_49 : decode cX9_hasRoomFor 49 = .ok (.iconst 4, 1) := by decide +kernel
theorem dX9_hasRoomFor_50 : decode cX9_hasRoomFor 50 = .ok (.if_icmp .eq 16, 3) := by decide +kernel
theorem dX9_hasRoomFor_53 : decode cX9_hasRoomFor 53 = .ok (.aload_n 0, 1) := by decide +kernel
theorem dX9_hasRoomFor_54 : decode cX9_hasRoomFor 54 = .ok (.getfield 30, 3) := by decide +kernel
theorem dX9_hasRoomFor_57 : decode cX9_hasRoomFor 57 = .ok (.getfield 80, 3) := by decide +kernel
theorem dX9_hasRoomFor_60 : decode cX9_hasRoomFor 60 = .ok (.iload_n 1, 1) := by decide +kernel
theorem dX9_hasRoomFor_61 : decode cX9_hasRoomFor 61 = .ok (.iaload, 1) := by decide +kernel
theorem dX9_hasRoomFor_62 : decode cX9_hasRoomFor 62 = .ok (.iconst 4, 1) := by decide +kernel
theorem dX9_hasRoomFor_63 : decode cX9_hasRoomFor 63 = .ok (.if_icmp .ne 5, 3) := by decide +kernel
theorem dX9_hasRoomFor_66 : decode cX9_hasRoomFor 66 = .ok (.iconst 0, 1) := by decide +kernel
theorem dX9_hasRoomFor_67 : decode cX9_hasRoomFor 67 = .ok (.ireturn, 1) := by decide +kernel
theorem dX9_hasRoomFor_68 : decode cX9_hasRoomFor 68 = .ok (.iload_n 3, 1) := by decide +kernel
theorem dX9_hasRoomFor_69 : decode cX9_hasRoomFor 69 = .ok (.aload_n 0, 1) := by decide +kernel
theorem dX9_hasRoomFor_70 : decode cX9_hasRoomFor 70 = .ok (.getfield 30, 3) := by decide +kernel
theorem dX9_hasRoomFor_73 : decode cX9_hasRoomFor 73 = .ok (.getfield 77, 3) := by decide +kernel
theorem dX9_hasRoomFor_76 : decode cX9_hasRoomFor 76 = .ok (.iload 4, 2) := by decide +kernel
theorem dX9_hasRoomFor_78 : decode cX9_hasRoomFor 78 = .ok (.iaload, 1) := by decide +kernel
theorem dX9_hasRoomFor_79 : decode cX9_hasRoomFor 79 = .ok (.iadd, 1) := by decide +kernel
theorem dX9_hasRoomFor_80 : decode cX9_hasRoomFor 80 = .ok (.istore_n 3, 1) := by decide +kernel
theorem dX9_hasRoomFor_81 : decode cX9_hasRoomFor 81 = .ok (.iinc 4 1, 3) := by decide +kernel
theorem dX9_hasRoomFor_84 : decode cX9_hasRoomFor 84 = .ok (.goto (-71), 3) := by decide +kernel
theorem dX9_hasRoomFor_87 : decode cX9_hasRoomFor 87 = .ok (.iload_n 3, 1) := by decide +kernel
theorem dX9_hasRoomFor_88 : decode cX9_hasRoomFor 88 = .ok (.aload_n 0, 1) := by decide +kernel
theorem dX9_hasRoomFor_89 : decode cX9_hasRoomFor 89 = .ok (.getfield 30, 3) := by decide +kernel
theorem dX9_hasRoomFor_92 : decode cX9_hasRoomFor 92 = .ok (.getfield 83, 3) := by decide +kernel
theorem dX9_hasRoomFor_95 : decode cX9_hasRoomFor 95 = .ok (.iload_n 2, 1) := by decide +kernel
theorem dX9_hasRoomFor_96 : decode cX9_hasRoomFor 96 = .ok (.iaload, 1) := by decide +kernel
theorem dX9_hasRoomFor_97 : decode cX9_hasRoomFor 97 = .ok (.if_icmp .gt 7, 3) := by decide +kernel
theorem dX9_hasRoomFor_100 : decode cX9_hasRoomFor 100 = .ok (.iconst 1, 1) := by decide +kernel
theorem dX9_hasRoomFor_101 : decode cX9_hasRoomFor 101 = .ok (.goto 4, 3) := by decide +kernel
theorem dX9_hasRoomFor_104 : decode cX9_hasRoomFor 104 = .ok (.iconst 0, 1) := by decide +kernel
theorem dX9_hasRoomFor_105 : decode cX9_hasRoomFor 105 = .ok (.ireturn, 1) := by decide +kernel
theorem dX9_yardsLeft_0 : decode cX9_yardsLeft 0 = .ok (.aload_n 0, 1) := by decide +kernel
theorem dX9_yardsLeft_1 : decode cX9_yardsLeft 1 = .ok (.getfield 30, 3) := by decide +kernel
theorem dX9_yardsLeft_4 : decode cX9_yardsLeft 4 = .ok (.getfield 80, 3) := by decide +kernel
theorem dX9_yardsLeft_7 : decode cX9_yardsLeft 7 = .ok (.iload_n 1, 1) := by decide +kernel
theorem dX9_yardsLeft_8 : decode cX9_yardsLeft 8 = .ok (.iaload, 1) := by decide +kernel
theorem dX9_yardsLeft_9 : decode cX9_yardsLeft 9 = .ok (.iconst 4, 1) := by decide +kernel
theorem dX9_yardsLeft_10 : decode cX9_yardsLeft 10 = .ok (.if_icmp .ne 5, 3) := by decide +kernel
theorem dX9_yardsLeft_13 : decode cX9_yardsLeft 13 = .ok (.iconst 0, 1) := by decide +kernel
theorem dX9_yardsLeft_14 : decode cX9_yardsLeft 14 = .ok (.ireturn, 1) := by decide +kernel
theorem dX9_yardsLeft_15 : decode cX9_yardsLeft 15 = .ok (.aload_n 0, 1) := by decide +kernel
theorem dX9_yardsLeft_16 : decode cX9_yardsLeft 16 = .ok (.getfield 30, 3) := by decide +kernel
theorem dX9_yardsLeft_19 : decode cX9_yardsLeft 19 = .ok (.getfield 83, 3) := by decide +kernel
theorem dX9_yardsLeft_22 : decode cX9_yardsLeft 22 = .ok (.iload_n 2, 1) := by decide +kernel
theorem dX9_yardsLeft_23 : decode cX9_yardsLeft 23 = .ok (.iaload, 1) := by decide +kernel
theorem dX9_yardsLeft_24 : decode cX9_yardsLeft 24 = .ok (.istore_n 3, 1) := by decide +kernel
theorem dX9_yardsLeft_25 : decode cX9_yardsLeft 25 = .ok (.iconst 0, 1) := by decide +kernel
theorem dX9_yardsLeft_26 : decode cX9_yardsLeft 26 = .ok (.istore 4, 2) := by decide +kernel
theorem dX9_yardsLeft_28 : decode cX9_yardsLeft 28 = .ok (.iload 4, 2) := by decide +kernel
theorem dX9_yardsLeft_30 : decode cX9_yardsLeft 30 = .ok (.aload_n 0, 1) := by decide +kernel
theorem dX9_yardsLeft_31 : decode cX9_yardsLeft 31 = .ok (.getfield 30, 3) := by decide +kernel
theorem dX9_yardsLeft_34 : decode cX9_yardsLeft 34 = .ok (.getfield 47, 3) := by decide +kernel
theorem dX9_yardsLeft_37 : decode cX9_yardsLeft 37 = .ok (.if_icmp .ge 37, 3) := by decide +kernel
theorem dX9_yardsLeft_40 : decode cX9_yardsLeft 40 = .ok (.iload_n 3, 1) := by decide +kernel
theorem dX9_yardsLeft_41 : decode cX9_yardsLeft 41 = .ok (.aload_n 0, 1) := by decide +kernel
theorem dX9_yardsLeft_42 : decode cX9_yardsLeft 42 = .ok (.getfield 17, 3) := by decide +kernel
theorem dX9_yardsLeft_45 : decode cX9_yardsLeft 45 = .ok (.iload 4, 2) := by decide +kernel
theorem dX9_yardsLeft_47 : decode cX9_yardsLeft 47 = .ok (.iaload, 1) := by decide +kernel
theorem dX9_yardsLeft_48 : decode cX9_yardsLeft 48 = .ok (.iload_n 2, 1) := by decide +kernel
theorem dX9_yardsLeft_49 : decode cX9_yardsLeft 49 = .ok (.if_icmp .ne 16, 3) := by decide +kernel
theorem dX9_yardsLeft_52 : decode cX9_yardsLeft 52 = .ok (.aload_n 0, 1) := by decide +kernel
theorem dX9_yardsLeft_53 : decode cX9_yardsLeft 53 = .ok (.getfield 30, 3) := by decide +kernel
theorem dX9_yardsLeft_56 : decode cX9_yardsLeft 56 = .ok (.getfield 77, 3) := by decide +kernel
theorem dX9_yardsLeft_59 : decode cX9_yardsLeft 59 = .ok (.iload 4, 2) := by decide +kernel
theorem dX9_yardsLeft_61 : decode cX9_yardsLeft 61 = .ok (.iaload, 1) := by decide +kernel
theorem dX9_yardsLeft_62 : decode cX9_yardsLeft 62 = .ok (.goto 4, 3) := by decide +kernel
theorem dX9_yardsLeft_65 : decode cX9_yardsLeft 65 = .ok (.iconst 0, 1) := by decide +kernel
theorem dX9_yardsLeft_66 : decode cX9_yardsLeft 66 = .ok (.isub, 1) := by decide +kernel
theorem dX9_yardsLeft_67 : decode cX9_yardsLeft 67 = .ok (.istore_n 3, 1) := by decide +kernel
theorem dX9_yardsLeft_68 : decode cX9_yardsLeft 68 = .ok (.iinc 4 1, 3) := by decide +kernel
theorem dX9_yardsLeft_71 : decode cX9_yardsLeft 71 = .ok (.goto (-43), 3) := by decide +kernel
theorem dX9_yardsLeft_74 : decode cX9_yardsLeft 74 = .ok (.iload_n 3, 1) := by decide +kernel
theorem dX9_yardsLeft_75 : decode cX9_yardsLeft 75 = .ok (.ireturn, 1) := by decide +kernel
theorem dX9_passQuarter_0 : decode cX9_passQuarter 0 = .ok (.aload_n 0, 1) := by decide +kernel
theorem dX9_passQuarter_1 : decode cX9_passQuarter 1 = .ok (.invokevirtual 67, 3) := by decide +kernel
theorem dX9_passQuarter_4 : decode cX9_passQuarter 4 = .ok (.istore_n 1, 1) := by decide +kernel
theorem dX9_passQuarter_5 : decode cX9_passQuarter 5 = .ok (.iconst 0, 1) := by decide +kernel
theorem dX9_passQuarter_6 : decode cX9_passQuarter 6 = .ok (.istore_n 2, 1) := by decide +kernel
theorem dX9_passQuarter_7 : decode cX9_passQuarter 7 = .ok (.iload_n 2, 1) := by decide +kernel
theorem dX9_passQuarter_8 : decode cX9_passQuarter 8 = .ok (.aload_n 0, 1) := by decide +kernel
theorem dX9_passQuarter_9 : decode cX9_passQuarter 9 = .ok (.getfield 30, 3) := by decide +kernel
theorem dX9_passQuarter_12 : decode cX9_passQuarter 12 = .ok (.getfield 47, 3) := by decide +kernel
theorem dX9_passQuarter_15 : decode cX9_passQuarter 15 = .ok (.if_icmp .ge 49, 3) := by decide +kernel
theorem dX9_passQuarter_18 : decode cX9_passQuarter 18 = .ok (.aload_n 0, 1) := by decide +kernel
theorem dX9_passQuarter_19 : decode cX9_passQuarter 19 = .ok (.iload_n 2, 1) := by decide +kernel
theorem dX9_passQuarter_20 : decode cX9_passQuarter 20 = .ok (.invokevirtual 54, 3) := by decide +kernel
theorem dX9_passQuarter_23 : decode cX9_passQuarter 23 = .ok (.ifCond .eq 35, 3) := by decide +kernel
theorem dX9_passQuarter_26 : decode cX9_passQuarter 26 = .ok (.aload_n 0, 1) := by decide +kernel
theorem dX9_passQuarter_27 : decode cX9_passQuarter 27 = .ok (.getfield 11, 3) := by decide +kernel
theorem dX9_passQuarter_30 : decode cX9_passQuarter 30 = .ok (.iload_n 2, 1) := by decide +kernel
theorem dX9_passQuarter_31 : decode cX9_passQuarter 31 = .ok (.iconst 0, 1) := by decide +kernel
theorem dX9_passQuarter_32 : decode cX9_passQuarter 32 = .ok (.aload_n 0, 1) := by decide +kernel
theorem dX9_passQuarter_33 : decode cX9_passQuarter 33 = .ok (.getfield 11, 3) := by decide +kernel
theorem dX9_passQuarter_36 : decode cX9_passQuarter 36 = .ok (.iload_n 2, 1) := by decide +kernel
theorem dX9_passQuarter_37 : decode cX9_passQuarter 37 = .ok (.iaload, 1) := by decide +kernel
theorem dX9_passQuarter_38 : decode cX9_passQuarter 38 = .ok (.aload_n 0, 1) := by decide +kernel
theorem dX9_passQuarter_39 : decode cX9_passQuarter 39 = .ok (.getfield 30, 3) := by decide +kernel
theorem dX9_passQuarter_42 : decode cX9_passQuarter 42 = .ok (.iload_n 2, 1) := by decide +kernel
theorem dX9_passQuarter_43 : decode cX9_passQuarter 43 = .ok (.aload_n 0, 1) := by decide +kernel
theorem dX9_passQuarter_44 : decode cX9_passQuarter 44 = .ok (.getfield 17, 3) := by decide +kernel
theorem dX9_passQuarter_47 : decode cX9_passQuarter 47 = .ok (.iload_n 2, 1) := by decide +kernel
theorem dX9_passQuarter_48 : decode cX9_passQuarter 48 = .ok (.iaload, 1) := by decide +kernel
theorem dX9_passQuarter_49 : decode cX9_passQuarter 49 = .ok (.iload_n 1, 1) := by decide +kernel
theorem dX9_passQuarter_50 : decode cX9_passQuarter 50 = .ok (.invokevirtual 86, 3) := by decide +kernel
theorem dX9_passQuarter_53 : decode cX9_passQuarter 53 = .ok (.isub, 1) := by decide +kernel
theorem dX9_passQuarter_54 : decode cX9_passQuarter 54 = .ok (.invokestatic 90, 3) := by decide +kernel
theorem dX9_passQuarter_57 : decode cX9_passQuarter 57 = .ok (.iastore, 1) := by decide +kernel
theorem dX9_passQuarter_58 : decode cX9_passQuarter 58 = .ok (.iinc 2 1, 3) := by decide +kernel
theorem dX9_passQuarter_61 : decode cX9_passQuarter 61 = .ok (.goto (-54), 3) := by decide +kernel
theorem dX9_passQuarter_64 : decode cX9_passQuarter 64 = .ok (.aload_n 0, 1) := by decide +kernel
theorem dX9_passQuarter_65 : decode cX9_passQuarter 65 = .ok (.invokevirtual 93, 3) := by decide +kernel
theorem dX9_passQuarter_68 : decode cX9_passQuarter 68 = .ok (.aload_n 0, 1) := by decide +kernel
theorem dX9_passQuarter_69 : decode cX9_passQuarter 69 = .ok (.invokevirtual 96, 3) := by decide +kernel
theorem dX9_passQuarter_72 : decode cX9_passQuarter 72 = .ok (.aload_n 0, 1) := by decide +kernel
theorem dX9_passQuarter_73 : decode cX9_passQuarter 73 = .ok (.dup, 1) := by decide +kernel
theorem dX9_passQuarter_74 : decode cX9_passQuarter 74 = .ok (.getfield 34, 3) := by decide +kernel
theorem dX9_passQuarter_77 : decode cX9_passQuarter 77 = .ok (.iconst 1, 1) := by decide +kernel
theorem dX9_passQuarter_78 : decode cX9_passQuarter 78 = .ok (.iadd, 1) := by decide +kernel
theorem dX9_passQuarter_79 : decode cX9_passQuarter 79 = .ok (.putfield 34, 3) := by decide +kernel
theorem dX9_passQuarter_82 : decode cX9_passQuarter 82 = .ok (.return_, 1) := by decide +kernel
theorem dX9_gatherDrips_0 : decode cX9_gatherDrips 0 = .ok (.iconst 0, 1) := by decide +kernel
theorem dX9_gatherDrips_1 : decode cX9_gatherDrips 1 = .ok (.istore_n 1, 1) := by decide +kernel
theorem dX9_gatherDrips_2 : decode cX9_gatherDrips 2 = .ok (.iload_n 1, 1) := by decide +kernel
theorem dX9_gatherDrips_3 : decode cX9_gatherDrips 3 = .ok (.aload_n 0, 1) := by decide +kernel
theorem dX9_gatherDrips_4 : decode cX9_gatherDrips 4 = .ok (.getfield 30, 3) := by decide +kernel
theorem dX9_gatherDrips_7 : decode cX9_gatherDrips 7 = .ok (.getfield 99, 3) := by decide +kernel
theorem dX9_gatherDrips_10 : decode cX9_gatherDrips 10 = .ok (.if_icmp .ge 23, 3) := by decide +kernel
theorem dX9_gatherDrips_13 : decode cX9_gatherDrips 13 = .ok (.aload_n 0, 1) := by decide +kernel
theorem dX9_gatherDrips_14 : decode cX9_gatherDrips 14 = .ok (.getfield 24, 3) := by decide +kernel
theorem dX9_gatherDrips_17 : decode cX9_gatherDrips 17 = .ok (.iload_n 1, 1) := by decide +kernel
theorem dX9_gatherDrips_18 : decode cX9_gatherDrips 18 = .ok (.iconst 0, 1) := by decide +kernel
theorem dX9_gatherDrips_19 : decode cX9_gatherDrips 19 = .ok (.iastore, 1) := by decide +kernel
theorem dX9_gatherDrips_20 : decode cX9_gatherDrips 20 = .ok (.aload_n 0, 1) := by decide +kernel
theorem dX9_gatherDrips_21 : decode cX9_gatherDrips 21 = .ok (.getfield 27, 3) := by decide +kernel
theorem dX9_gatherDrips_24 : decode cX9_gatherDrips 24 = .ok (.iload_n 1, 1) := by decide +kernel
theorem dX9_gatherDrips_25 : decode cX9_gatherDrips 25 = .ok (.iconst 0, 1) := by decide +kernel
theorem dX9_gatherDrips_26 : decode cX9_gatherDrips 26 = .ok (.bastore, 1) := by decide +kernel
theorem dX9_gatherDrips_27 : decode cX9_gatherDrips 27 = .ok (.iinc 1 1, 3) := by decide +kernel
theorem dX9_gatherDrips_30 : decode cX9_gatherDrips 30 = .ok (.goto (-28), 3) := by decide +kernel
theorem dX9_gatherDrips_33 : decode cX9_gatherDrips 33 = .ok (.iconst 0, 1) := by decide +kernel
theorem dX9_gatherDrips_34 : decode cX9_gatherDrips 34 = .ok (.istore_n 1, 1) := by decide +kernel
theorem dX9_gatherDrips_35 : decode cX9_gatherDrips 35 = .ok (.iload_n 1, 1) := by decide +kernel
theorem dX9_gatherDrips_36 : decode cX9_gatherDrips 36 = .ok (.aload_n 0, 1) := by decide +kernel
theorem dX9_gatherDrips_37 : decode cX9_gatherDrips 37 = .ok (.getfield 30, 3) := by decide +kernel
theorem dX9_gatherDrips_40 : decode cX9_gatherDrips 40 = .ok (.getfield 47, 3) := by decide +kernel
theorem dX9_gatherDrips_43 : decode cX9_gatherDrips 43 = .ok (.if_icmp .ge 94, 3) := by decide +kernel
theorem dX9_gatherDrips_46 : decode cX9_gatherDrips 46 = .ok (.aload_n 0, 1) := by decide +kernel
theorem dX9_gatherDrips_47 : decode cX9_gatherDrips 47 = .ok (.iload_n 1, 1) := by decide +kernel
theorem dX9_gatherDrips_48 : decode cX9_gatherDrips 48 = .ok (.invokevirtual 54, 3) := by decide +kernel
theorem dX9_gatherDrips_51 : decode cX9_gatherDrips 51 = .ok (.ifCond .eq 31, 3) := by decide +kernel
theorem dX9_gatherDrips_54 : decode cX9_gatherDrips 54 = .ok (.aload_n 0, 1) := by decide +kernel
theorem dX9_gatherDrips_55 : decode cX9_gatherDrips 55 = .ok (.getfield 11, 3) := by decide +kernel
theorem dX9_gatherDrips_58 : decode cX9_gatherDrips 58 = .ok (.iload_n 1, 1) := by decide +kernel
theorem dX9_gatherDrips_59 : decode cX9_gatherDrips 59 = .ok (.iaload, 1) := by decide +kernel
theorem dX9_gatherDrips_60 : decode cX9_gatherDrips 60 = .ok (.bipush 30, 2) := by decide +kernel
theorem dX9_gatherDrips_62 : decode cX9_gatherDrips 62 = .ok (.if_icmp .le 20, 3) := by decide +kernel
theorem dX9_gatherDrips_65 : decode cX9_gatherDrips 65 = .ok (.aload_n 0, 1) := by decide +kernel
theorem dX9_gatherDrips_66 : decode cX9_gatherDrips 66 = .ok (.getfield 30, 3) := by decide +kernel
theorem dX9_gatherDrips_69 : decode cX9_gatherDrips 69 = .ok (.getfield 102, 3) := by decide +kernel
theorem dX9_gatherDrips_72 : decode cX9_gatherDrips 72 = .ok (.aload_n 0, 1) := by decide +kernel
theorem dX9_gatherDrips_73 : decode cX9_gatherDrips 73 = .ok (.getfield 17, 3) := by decide +kernel
theorem dX9_gatherDrips_76 : decode cX9_gatherDrips 76 = .ok (.iload_n 1, 1) := by decide +kernel
theorem dX9_gatherDrips_77 : decode cX9_gatherDrips 77 = .ok (.iaload, 1) := by decide +kernel
theorem dX9_gatherDrips_78 : decode cX9_gatherDrips 78 = .ok (.iaload, 1) := by decide +kernel
theorem dX9_gatherDrips_79 : decode cX9_gatherDrips 79 = .ok (.goto 4, 3) := by decide +kernel
theorem dX9_gatherDrips_82 : decode cX9_gatherDrips 82 = .ok (.iconst (-1), 1) := by decide +kernel
theorem dX9_gatherDrips_83 : decode cX9_gatherDrips 83 = .ok (.istore_n 2, 1) := by decide +kernel
theorem dX9_gatherDrips_84 : decode cX9_gatherDrips 84 = .ok (.iload_n 2, 1) := by decide +kernel
theorem dX9_gatherDrips_85 : decode cX9_gatherDrips 85 = .ok (.ifCond .lt 46, 3) := by decide +kernel
theorem dX9_gatherDrips_88 : decode cX9_gatherDrips 88 = .ok (.aload_n 0, 1) := by decide +kernel
theorem dX9_gatherDrips_89 : decode cX9_gatherDrips 89 = .ok (.getfield 24, 3) := by decide +kernel
theorem dX9_gatherDrips_92 : decode cX9_gatherDrips 92 = .ok (.iload_n 2, 1) := by decide +kernel
theorem dX9_gatherDrips_93 : decode cX9_gatherDrips 93 = .ok (.dup2, 1) := by decide +kernel
theorem dX9_gatherDrips_94 : decode cX9_gatherDrips 94 = .ok (.iaload, 1) := by decide +kernel
theorem dX9_gatherDrips_95 : decode cX9_gatherDrips 95 = .ok (.iconst 1, 1) := by decide +kernel
theorem dX9_gatherDrips_96 : decode cX9_gatherDrips 96 = .ok (.iadd, 1) := by decide +kernel
theorem dX9_gatherDrips_97 : decode cX9_gatherDrips 97 = .ok (.iastore, 1) := by decide +kernel
theorem dX9_gatherDrips_98 : decode cX9_gatherDrips 98 = .ok (.aload_n 0, 1) := by decide +kernel
theorem dX9_gatherDrips_99 : decode cX9_gatherDrips 99 = .ok (.getfield 27, 3) := by decide +kernel
theorem dX9_gatherDrips_102 : decode cX9_gatherDrips 102 = .ok (.iload_n 2, 1) := by decide +kernel
theorem dX9_gatherDrips_103 : decode cX9_gatherDrips 103 = .ok (.aload_n 0, 1) := by decide +kernel
theorem dX9_gatherDrips_104 : decode cX9_gatherDrips 104 = .ok (.getfield 27, 3) := by decide +kernel
theorem dX9_gatherDrips_107 : decode cX9_gatherDrips 107 = .ok (.iload_n 2, 1) := by decide +kernel
theorem dX9_gatherDrips_108 : decode cX9_gatherDrips 108 = .ok (.baload, 1) := by decide +kernel
theorem dX9_gatherDrips_109 : decode cX9_gatherDrips 109 = .ok (.ifCond .ne 16, 3) := by decide +kernel
theorem dX9_gatherDrips_112 : decode cX9_gatherDrips 112 = .ok (.aload_n 0, 1) := by decide +kernel
theorem dX9_gatherDrips_113 : decode cX9_gatherDrips 113 = .ok (.getfield 30, 3) := by decide +kernel
theorem dX9_gatherDrips_116 : decode cX9_gatherDrips 116 = .ok (.getfield 80, 3) := by decide +kernel
theorem dX9_gatherDrips_119 : decode cX9_gatherDrips 119 = .ok (.iload_n 1, 1) := by decide +kernel
theorem dX9_gatherDrips_120 : decode cX9_gatherDrips 120 = .ok (.iaload, 1) := by decide +kernel
theorem dX9_gatherDrips_121 : decode cX9_gatherDrips 121 = .ok (.iconst 1, 1) := by decide +kernel
theorem dX9_gatherDrips_122 : decode cX9_gatherDrips 122 = .ok (.if_icmp .ne 7, 3) := by decide +kernel
theorem dX9_gatherDrips_125 : decode cX9_gatherDrips 125 = .ok (.iconst 1, 1) := by decide +kernel
theorem dX9_gatherDrips_126 : decode cX9_gatherDrips 126 = .ok (.goto 4, 3) := by decide +kernel
theorem dX9_gatherDrips_129 : decode cX9_gatherDrips 129 = .ok (.iconst 0, 1) := by decide +kernel
theorem dX9_gatherDrips_130 : decode cX9_gatherDrips 130 = .ok (.bastore, 1) := by decide +kernel
theorem dX9_gatherDrips_131 : decode cX9_gatherDrips 131 = .ok (.iinc 1 1, 3) := by decide +kernel
theorem dX9_gatherDrips_134 : decode cX9_gatherDrips 134 = .ok (.goto (-99), 3) := by decide +kernel
theorem dX9_gatherDrips_137 : decode cX9_gatherDrips 137 = .ok (.return_, 1) := by decide +kernel
theorem dX9_takeDrips_0 : decode cX9_takeDrips 0 = .ok (.iconst 0, 1) := by decide +kernel
theorem dX9_takeDrips_1 : decode cX9_takeDrips 1 = .ok (.istore_n 1, 1) := by decide +kernel
theorem dX9_takeDrips_2 : decode cX9_takeDrips 2 = .ok (.iload_n 1, 1) := by decide +kernel
theorem dX9_takeDrips_3 : decode cX9_takeDrips 3 = .ok (.aload_n 0, 1) := by decide +kernel
theorem dX9_takeDrips_4 : decode cX9_takeDrips 4 = .ok (.getfield 30, 3) := by decide +kernel
theorem dX9_takeDrips_7 : decode cX9_takeDrips 7 = .ok (.getfield 47, 3) := by decide +kernel
theorem dX9_takeDrips_10 : decode cX9_takeDrips 10 = .ok (.if_icmp .ge 93, 3) := by decide +kernel
theorem dX9_takeDrips_13 : decode cX9_takeDrips 13 = .ok (.aload_n 0, 1) := by decide +kernel
theorem dX9_takeDrips_14 : decode cX9_takeDrips 14 = .ok (.iload_n 1, 1) := by decide +kernel
theorem dX9_takeDrips_15 : decode cX9_takeDrips 15 = .ok (.invokevirtual 54, 3) := by decide +kernel
theorem dX9_takeDrips_18 : decode cX9_takeDrips 18 = .ok (.ifCond .eq 79, 3) := by decide +kernel
theorem dX9_takeDrips_21 : decode cX9_takeDrips 21 = .ok (.aload_n 0, 1) := by decide +kernel
theorem dX9_takeDrips_22 : decode cX9_takeDrips 22 = .ok (.getfield 11, 3) := by decide +kernel
theorem dX9_takeDrips_25 : decode cX9_takeDrips 25 = .ok (.iload_n 1, 1) := by decide +kernel
theorem dX9_takeDrips_26 : decode cX9_takeDrips 26 = .ok (.bipush 99, 2) := by decide +kernel
theorem dX9_takeDrips_28 : decode cX9_takeDrips 28 = .ok (.aload_n 0, 1) := by decide +kernel
theorem dX9_takeDrips_29 : decode cX9_takeDrips 29 = .ok (.getfield 11, 3) := by decide +kernel
theorem dX9_takeDrips_32 : decode cX9_takeDrips 32 = .ok (.iload_n 1, 1) := by decide +kernel
theorem dX9_takeDrips_33 : decode cX9_takeDrips 33 = .ok (.iaload, 1) := by decide +kernel
theorem dX9_takeDrips_34 : decode cX9_takeDrips 34 = .ok (.iconst 3, 1) := by decide +kernel
theorem dX9_takeDrips_35 : decode cX9_takeDrips 35 = .ok (.aload_n 0, 1) := by decide +kernel
theorem dX9_takeDrips_36 : decode cX9_takeDrips 36 = .ok (.getfield 24, 3) := by decide +kernel
theorem dX9_takeDrips_39 : decode cX9_takeDrips 39 = .ok (.aload_n 0, 1) := by decide +kernel
theorem dX9_takeDrips_40 : decode cX9_takeDrips 40 = .ok (.getfield 17, 3) := by decide +kernel
theorem dX9_takeDrips_43 : decode cX9_takeDrips 43 = .ok (.iload_n 1, 1) := by decide +kernel
theorem dX9_takeDrips_44 : decode cX9_takeDrips 44 = .ok (.iaload, 1) := by decide +kernel
theorem dX9_takeDrips_45 : decode cX9_takeDrips 45 = .ok (.iaload, 1) := by decide +kernel
theorem dX9_takeDrips_46 : decode cX9_takeDrips 46 = .ok (.imul, 1) := by decide +kernel
theorem dX9_takeDrips_47 : decode cX9_takeDrips 47 = .ok (.iadd, 1) := by decide +kernel
theorem dX9_takeDrips_48 : decode cX9_takeDrips 48 = .ok (.invokestatic 105, 3) := by decide +kernel
theorem dX9_takeDrips_51 : decode cX9_takeDrips 51 = .ok (.iastore, 1) := by decide +kernel
theorem dX9_takeDrips_52 : decode cX9_takeDrips 52 = .ok (.aload_n 0, 1) := by decide +kernel
theorem dX9_takeDrips_53 : decode cX9_takeDrips 53 = .ok (.getfield 20, 3) := by decide +kernel
theorem dX9_takeDrips_56 : decode cX9_takeDrips 56 = .ok (.iload_n 1, 1) := by decide +kernel
theorem dX9_takeDrips_57 : decode cX9_takeDrips 57 = .ok (.aload_n 0, 1) := by decide +kernel
theorem dX9_takeDrips_58 : decode cX9_takeDrips 58 = .ok (.getfield 20, 3) := by decide +kernel
theorem dX9_takeDrips_61 : decode cX9_takeDrips 61 = .ok (.iload_n 1, 1) := by decide +kernel
theorem dX9_takeDrips_62 : decode cX9_takeDrips 62 = .ok (.baload, 1) := by decide +kernel
theorem dX9_takeDrips_63 : decode cX9_takeDrips 63 = .ok (.ifCond .ne 28, 3) := by decide +kernel
theorem dX9_takeDrips_66 : decode cX9_takeDrips 66 = .ok (.aload_n 0, 1) := by decide +kernel
theorem dX9_takeDrips_67 : decode cX9_takeDrips 67 = .ok (.getfield 27, 3) := by decide +kernel
theorem dX9_takeDrips_70 : decode cX9_takeDrips 70 = .ok (.aload_n 0, 1) := by decide +kernel
theorem dX9_takeDrips_71 : decode cX9_takeDrips 71 = .ok (.getfield 17, 3) := by decide +kernel
theorem dX9_takeDrips_74 : decode cX9_takeDrips 74 = .ok (.iload_n 1, 1) := by decide +kernel
theorem dX9_takeDrips_75 : decode cX9_takeDrips 75 = .ok (.iaload, 1) := by decide +kernel
theorem dX9_takeDrips_76 : decode cX9_takeDrips 76 = .ok (.baload, 1) := by decide +kernel
theorem dX9_takeDrips_77 : decode cX9_takeDrips 77 = .ok (.ifCond .eq 18, 3) := by decide +kernel
theorem dX9_takeDrips_80 : decode cX9_takeDrips 80 = .ok (.aload_n 0, 1) := by decide +kernel
theorem dX9_takeDrips_81 : decode cX9_takeDrips 81 = .ok (.getfield 30, 3) := by decide +kernel
theorem dX9_takeDrips_84 : decode cX9_takeDrips 84 = .ok (.iload_n 1, 1) := by decide +kernel
theorem dX9_takeDrips_85 : decode cX9_takeDrips 85 = .ok (.invokevirtual 108, 3) := by decide +kernel
theorem dX9_takeDrips_88 : decode cX9_takeDrips 88 = .ok (.ifCond .eq 7, 3) := by decide +kernel
theorem dX9_takeDrips_91 : decode cX9_takeDrips 91 = .ok (.iconst 1, 1) := by decide +kernel
theorem dX9_takeDrips_92 : decode cX9_takeDrips 92 = .ok (.goto 4, 3) := by decide +kernel
theorem dX9_takeDrips_95 : decode cX9_takeDrips 95 = .ok (.iconst 0, 1) := by decide +kernel
theorem dX9_takeDrips_96 : decode cX9_takeDrips 96 = .ok (.bastore, 1) := by decide +kernel
theorem dX9_takeDrips_97 : decode cX9_takeDrips 97 = .ok (.iinc 1 1, 3) := by decide +kernel
theorem dX9_takeDrips_100 : decode cX9_takeDrips 100 = .ok (.goto (-98), 3) := by decide +kernel
theorem dX9_takeDrips_103 : decode cX9_takeDrips 103 = .ok (.return_, 1) := by decide +kernel
theorem dX9_allHungAreDry_0 : decode cX9_allHungAreDry 0 = .ok (.iconst 0, 1) := by decide +kernel
theorem dX9_allHungAreDry_1 : decode cX9_allHungAreDry 1 = .ok (.istore_n 1, 1) := by decide +kernel
theorem dX9_allHungAreDry_2 : decode cX9_allHungAreDry 2 = .ok (.iload_n 1, 1) := by decide +kernel
theorem dX9_allHungAreDry_3 : decode cX9_allHungAreDry 3 = .ok (.aload_n 0, 1) := by decide +kernel
theorem dX9_allHungAreDry_4 : decode cX9_allHungAreDry 4 = .ok (.getfield 30, 3) := by decide +kernel
theorem dX9_allHungAreDry_7 : decode cX9_allHungAreDry 7 = .ok (.getfield 47, 3) := by decide +kernel
theorem dX9_allHungAreDry_10 : decode cX9_allHungAreDry 10 = .ok (.if_icmp .ge 28, 3) := by decide +kernel
theorem dX9_allHungAreDry_13 : decode cX9_allHungAreDry 13 = .ok (.aload_n 0, 1) := by decide +kernel
theorem dX9_allHungAreDry_14 : decode cX9_allHungAreDry 14 = .ok (.iload_n 1, 1) := by decide +kernel
theorem dX9_allHungAreDry_15 : decode cX9_allHungAreDry 15 = .ok (.invokevirtual 54, 3) := by decide +kernel
theorem dX9_allHungAreDry_18 : decode cX9_allHungAreDry 18 = .ok (.ifCond .eq 14, 3) := by decide +kernel
theorem dX9_allHungAreDry_21 : decode cX9_allHungAreDry 21 = .ok (.aload_n 0, 1) := by decide +kernel
theorem dX9_allHungAreDry_22 : decode cX9_allHungAreDry 22 = .ok (.getfield 11, 3) := by decide +kernel
theorem dX9_allHungAreDry_25 : decode cX9_allHungAreDry 25 = .ok (.iload_n 1, 1) := by decide +kernel
theorem dX9_allHungAreDry_26 : decode cX9_allHungAreDry 26 = .ok (.iaload, 1) := by decide +kernel
theorem dX9_allHungAreDry_27 : decode cX9_allHungAreDry 27 = .ok (.ifCond .le 5, 3) := by decide +kernel
theorem dX9_allHungAreDry_30 : decode cX9_allHungAreDry 30 = .ok (.iconst 0, 1) := by decide +kernel
theorem dX9_allHungAreDry_31 : decode cX9_allHungAreDry 31 = .ok (.ireturn, 1) := by decide +kernel
theorem dX9_allHungAreDry_32 : decode cX9_allHungAreDry 32 = .ok (.iinc 1 1, 3) := by decide +kernel
theorem dX9_allHungAreDry_35 : decode cX9_allHungAreDry 35 = .ok (.goto (-33), 3) := by decide +kernel
theorem dX9_allHungAreDry_38 : decode cX9_allHungAreDry 38 = .ok (.iconst 1, 1) := by decide +kernel
theorem dX9_allHungAreDry_39 : decode cX9_allHungAreDry 39 = .ok (.ireturn, 1) := by decide +kernel
theorem dX9_areDry_0 : decode cX9_areDry 0 = .ok (.iload_n 1, 1) := by decide +kernel
theorem dX9_areDry_1 : decode cX9_areDry 1 = .ok (.istore_n 3, 1) := by decide +kernel
theorem dX9_areDry_2 : decode cX9_areDry 2 = .ok (.iload_n 3, 1) := by decide +kernel
theorem dX9_areDry_3 : decode cX9_areDry 3 = .ok (.iload_n 2, 1) := by decide +kernel
theorem dX9_areDry_4 : decode cX9_areDry 4 = .ok (.if_icmp .gt 20, 3) := by decide +kernel
theorem dX9_areDry_7 : decode cX9_areDry 7 = .ok (.aload_n 0, 1) := by decide +kernel
theorem dX9_areDry_8 : decode cX9_areDry 8 = .ok (.getfield 11, 3) := by decide +kernel
theorem dX9_areDry_11 : decode cX9_areDry 11 = .ok (.iload_n 3, 1) := by decide +kernel
theorem dX9_areDry_12 : decode cX9_areDry 12 = .ok (.iaload, 1) := by decide +kernel
theorem dX9_areDry_13 : decode cX9_areDry 13 = .ok (.ifCond .le 5, 3) := by decide +kernel
theorem dX9_areDry_16 : decode cX9_areDry 16 = .ok (.iconst 0, 1) := by decide +kernel
theorem dX9_areDry_17 : decode cX9_areDry 17 = .ok (.ireturn, 1) := by decide +kernel
theorem dX9_areDry_18 : decode cX9_areDry 18 = .ok (.iinc 3 1, 3) := by decide +kernel
theorem dX9_areDry_21 : decode cX9_areDry 21 = .ok (.goto (-19), 3) := by decide +kernel
theorem dX9_areDry_24 : decode cX9_areDry 24 = .ok (.iconst 1, 1) := by decide +kernel
theorem dX9_areDry_25 : decode cX9_areDry 25 = .ok (.ireturn, 1) := by decide +kernel
theorem dX9_areStainedSince_0 : decode cX9_areStainedSince 0 = .ok (.iload_n 2, 1) := by decide +kernel
theorem dX9_areStainedSince_1 : decode cX9_areStainedSince 1 = .ok (.istore 4, 2) := by decide +kernel
theorem dX9_areStainedSince_3 : decode cX9_areStainedSince 3 = .ok (.iload 4, 2) := by decide +kernel
theorem dX9_areStainedSince_5 : decode cX9_areStainedSince 5 = .ok (.iload_n 3, 1) := by decide +kernel
theorem dX9_areStainedSince_6 : decode cX9_areStainedSince 6 = .ok (.if_icmp .gt 31, 3) := by decide +kernel
theorem dX9_areStainedSince_9 : decode cX9_areStainedSince 9 = .ok (.aload_n 0, 1) := by decide +kernel
theorem dX9_areStainedSince_10 : decode cX9_areStainedSince 10 = .ok (.getfield 20, 3) := by decide +kernel
theorem dX9_areStainedSince_13 : decode cX9_areStainedSince 13 = .ok (.iload 4, 2) := by decide +kernel
theorem dX9_areStainedSince_15 : decode cX9_areStainedSince 15 = .ok (.baload, 1) := by decide +kernel
theorem dX9_areStainedSince_16 : decode cX9_areStainedSince 16 = .ok (.ifCond .eq 15, 3) := by decide +kernel
theorem dX9_areStainedSince_19 : decode cX9_areStainedSince 19 = .ok (.aload_n 1, 1) := by decide +kernel
theorem dX9_areStainedSince_20 : decode cX9_areStainedSince 20 = .ok (.getfield 20, 3) := by decide +kernel
theorem dX9_areStainedSince_23 : decode cX9_areStainedSince 23 = .ok (.iload 4, 2) := by decide +kernel
theorem dX9_areStainedSince_25 : decode cX9_areStainedSince 25 = .ok (.baload, 1) := by decide +kernel
theorem dX9_areStainedSince_26 : decode cX9_areStainedSince 26 = .ok (.ifCond .ne 5, 3) := by decide +kernel
theorem dX9_areStainedSince_29 : decode cX9_areStainedSince 29 = .ok (.iconst 1, 1) := by decide +kernel
theorem dX9_areStainedSince_30 : decode cX9_areStainedSince 30 = .ok (.ireturn, 1) := by decide +kernel
theorem dX9_areStainedSince_31 : decode cX9_areStainedSince 31 = .ok (.iinc 4 1, 3) := by decide +kernel
theorem dX9_areStainedSince_34 : decode cX9_areStainedSince 34 = .ok (.goto (-31), 3) := by decide +kernel
theorem dX9_areStainedSince_37 : decode cX9_areStainedSince 37 = .ok (.iconst 0, 1) := by decide +kernel
theorem dX9_areStainedSince_38 : decode cX9_areStainedSince 38 = .ok (.ireturn, 1) := by decide +kernel
theorem dX10_init_0 : decode cX10_init 0 = .ok (.aload_n 0, 1) := by decide +kernel
theorem dX10_init_1 : decode cX10_init 1 = .ok (.iload_n 1, 1) := by decide +kernel
theorem dX10_init_2 : decode cX10_init 2 = .ok (.iload_n 2, 1) := by decide +kernel
theorem dX10_init_3 : decode cX10_init 3 = .ok (.iload_n 3, 1) := by decide +kernel
theorem dX10_init_4 : decode cX10_init 4 = .ok (.aload 4, 2) := by decide +kernel
theorem dX10_init_6 : decode cX10_init 6 = .ok (.invokespecial 1, 3) := by decide +kernel
theorem dX10_init_9 : decode cX10_init 9 = .ok (.return_, 1) := by decide +kernel
theorem dX10_size_0 : decode cX10_size 0 = .ok (.aload_n 0, 1) := by decide +kernel
theorem dX10_size_1 : decode cX10_size 1 = .ok (.getfield 7, 3) := by decide +kernel
theorem dX10_size_4 : decode cX10_size 4 = .ok (.bipush 13, 2) := by decide +kernel
theorem dX10_size_6 : decode cX10_size 6 = .ok (.invokevirtual 13, 3) := by decide +kernel
theorem dX10_size_9 : decode cX10_size 9 = .ok (.aload_n 0, 1) := by decide +kernel
theorem dX10_size_10 : decode cX10_size 10 = .ok (.invokespecial 19, 3) := by decide +kernel
theorem dX10_size_13 : decode cX10_size 13 = .ok (.aload_n 0, 1) := by decide +kernel
theorem dX10_size_14 : decode cX10_size 14 = .ok (.getfield 23, 3) := by decide +kernel
theorem dX10_size_17 : decode cX10_size 17 = .ok (.isub, 1) := by decide +kernel
theorem dX10_size_18 : decode cX10_size 18 = .ok (.ireturn, 1) := by decide +kernel
theorem dX11_init_0 : decode cX11_init 0 = .ok (.aload_n 0, 1) := by decide +kernel
theorem dX11_init_1 : decode cX11_init 1 = .ok (.invokespecial 1, 3) := by decide +kernel
theorem dX11_init_4 : decode cX11_init 4 = .ok (.aload_n 0, 1) := by decide +kernel
theorem dX11_init_5 : decode cX11_init 5 = .ok (.new 7, 3) := by decide +kernel
theorem dX11_init_8 : decode cX11_init 8 = .ok (.dup, 1) := by decide +kernel
theorem dX11_init_9 : decode cX11_init 9 = .ok (.invokespecial 9, 3) := by decide +kernel
theorem dX11_init_12 : decode cX11_init 12 = .ok (.putfield 10, 3) := by decide +kernel
theorem dX11_init_15 : decode cX11_init 15 = .ok (.aload_n 0, 1) := by decide +kernel
theorem dX11_init_16 : decode cX11_init 16 = .ok (.new 16, 3) := by decide +kernel
theorem dX11_init_19 : decode cX11_init 19 = .ok (.dup, 1) := by decide +kernel
theorem dX11_init_20 : decode cX11_init 20 = .ok (.invokespecial 18, 3) := by decide +kernel
theorem dX11_init_23 : decode cX11_init 23 = .ok (.putfield 19, 3) := by decide +kernel
theorem dX11_init_26 : decode cX11_init 26 = .ok (.aload_n 0, 1) := by decide +kernel
theorem dX11_init_27 : decode cX11_init 27 = .ok (.new 23, 3) := by decide +kernel
theorem dX11_init_30 : decode cX11_init 30 = .ok (.dup, 1) := by decide +kernel
theorem dX11_init_31 : decode cX11_init 31 = .ok (.invokespecial 25, 3) := by decide +kernel
theorem dX11_init_34 : decode cX11_init 34 = .ok (.putfield 26, 3) := by decide +kernel
theorem dX11_init_37 : decode cX11_init 37 = .ok (.aload_n 0, 1) := by decide +kernel
theorem dX11_init_38 : decode cX11_init 38 = .ok (.iconst 4, 1) := by decide +kernel
theorem dX11_init_39 : decode cX11_init 39 = .ok (.newarray .int, 2) := by decide +kernel
theorem dX11_init_41 : decode cX11_init 41 = .ok (.putfield 30, 3) := by decide +kernel
theorem dX11_init_44 : decode cX11_init 44 = .ok (.aload_n 0, 1) := by decide +kernel
theorem dX11_init_45 : decode cX11_init 45 = .ok (.iconst 4, 1) := by decide +kernel
theorem dX11_init_46 : decode cX11_init 46 = .ok (.newarray .int, 2) := by decide +kernel
theorem dX11_init_48 : decode cX11_init 48 = .ok (.putfield 34, 3) := by decide +kernel
theorem dX11_init_51 : decode cX11_init 51 = .ok (.aload_n 0, 1) := by decide +kernel
theorem dX11_init_52 : decode cX11_init 52 = .ok (.bipush 32, 2) := by decide +kernel
theorem dX11_init_54 : decode cX11_init 54 = .ok (.newarray .int, 2) := by decide +kernel
theorem dX11_init_56 : decode cX11_init 56 = .ok (.putfield 39, 3) := by decide +kernel
theorem dX11_init_59 : decode cX11_init 59 = .ok (.new 37, 3) := by decide +kernel
theorem dX11_init_62 : decode cX11_init 62 = .ok (.dup, 1) := by decide +kernel
theorem dX11_init_63 : decode cX11_init 63 = .ok (.invokespecial 42, 3) := by decide +kernel
theorem dX11_init_66 : decode cX11_init 66 = .ok (.astore_n 1, 1) := by decide +kernel
theorem dX11_init_67 : decode cX11_init 67 = .ok (.aload_n 0, 1) := by decide +kernel
theorem dX11_init_68 : decode cX11_init 68 = .ok (.new 43, 3) := by decide +kernel
theorem dX11_init_71 : decode cX11_init 71 = .ok (.dup, 1) := by decide +kernel
theorem dX11_init_72 : decode cX11_init 72 = .ok (.aload_n 1, 1) := by decide +kernel
theorem dX11_init_73 : decode cX11_init 73 = .ok (.invokespecial 45, 3) := by decide +kernel
theorem dX11_init_76 : decode cX11_init 76 = .ok (.putfield 48, 3) := by decide +kernel
theorem dX11_init_79 : decode cX11_init 79 = .ok (.aload_n 0, 1) := by decide +kernel
theorem dX11_init_80 : decode cX11_init 80 = .ok (.new 43, 3) := by decide +kernel
theorem dX11_init_83 : decode cX11_init 83 = .ok (.dup, 1) := by decide +kernel
theorem dX11_init_84 : decode cX11_init 84 = .ok (.aload_n 1, 1) := by decide +kernel
theorem dX11_init_85 : decode cX11_init 85 = .ok (.invokespecial 45, 3) := by decide +kernel
theorem dX11_init_88 : decode cX11_init 88 = .ok (.putfield 52, 3) := by decide +kernel
theorem dX11_init_91 : decode cX11_init 91 = .ok (.aload_n 0, 1) := by decide +kernel
theorem dX11_init_92 : decode cX11_init 92 = .ok (.new 43, 3) := by decide +kernel
theorem dX11_init_95 : decode cX11_init 95 = .ok (.dup, 1) := by decide +kernel
theorem dX11_init_96 : decode cX11_init 96 = .ok (.aload_n 1, 1) := by decide +kernel
theorem dX11_init_97 : decode cX11_init 97 = .ok (.invokespecial 45, 3) := by decide +kernel
theorem dX11_init_100 : decode cX11_init 100 = .ok (.putfield 55, 3) := by decide +kernel
theorem dX11_init_103 : decode cX11_init 103 = .ok (.aload_n 0, 1) := by decide +kernel
theorem dX11_init_104 : decode cX11_init 104 = .ok (.new 43, 3) := by decide +kernel
theorem dX11_init_107 : decode cX11_init 107 = .ok (.dup, 1) := by decide +kernel
theorem dX11_init_108 : decode cX11_init 108 = .ok (.aload_n 1, 1) := by decide +kernel
theorem dX11_init_109 : decode cX11_init 109 = .ok (.invokespecial 45, 3) := by decide +kernel
theorem dX11_init_112 : decode cX11_init 112 = .ok (.putfield 58, 3) := by decide +kernel
theorem dX11_init_115 : decode cX11_init 115 = .ok (.aload_n 0, 1) := by decide +kernel
theorem dX11_init_116 : decode cX11_init 116 = .ok (.new 43, 3) := by decide +kernel
theorem dX11_init_119 : decode cX11_init 119 = .ok (.dup, 1) := by decide +kernel
theorem dX11_init_120 : decode cX11_init 120 = .ok (.aload_n 1, 1) := by decide +kernel
theorem dX11_init_121 : decode cX11_init 121 = .ok (.invokespecial 45, 3) := by decide +kernel
theorem dX11_init_124 : decode cX11_init 124 = .ok (.putfield 61, 3) := by decide +kernel
theorem dX11_init_127 : decode cX11_init 127 = .ok (.return_, 1) := by decide +kernel
theorem dX11_row_0 : decode cX11_row 0 = .ok (.aload_n 0, 1) := by decide +kernel
theorem dX11_row_1 : decode cX11_row 1 = .ok (.getfield 10, 3) := by decide +kernel
theorem dX11_row_4 : decode cX11_row 4 = .ok (.iload_n 1, 1) := by decide +kernel
theorem dX11_row_5 : decode cX11_row 5 = .ok (.invokevirtual 64, 3) := by decide +kernel
theorem dX11_row_8 : decode cX11_row 8 = .ok (.ifCond .eq 18, 3) := by decide +kernel
theorem dX11_row_11 : decode cX11_row 11 = .ok (.iload_n 2, 1) := by decide +kernel
theorem dX11_row_12 : decode cX11_row 12 = .ok (.iconst 0, 1) := by decide +kernel
theorem dX11_row_13 : decode cX11_row 13 = .ok (.iconst 2, 1) := by decide +kernel
theorem dX11_row_14 : decode cX11_row 14 = .ok (.invokestatic 68, 3) := by decide +kernel
theorem dX11_row_17 : decode cX11_row 17 = .ok (.ifCond .eq 9, 3) := by decide +kernel
theorem dX11_row_20 : decode cX11_row 20 = .ok (.iload_n 3, 1) := by decide +kernel
theorem dX11_row_21 : decode cX11_row 21 = .ok (.bipush 40, 2) := by decide +kernel
theorem dX11_row_23 : decode cX11_row 23 = .ok (.if_icmp .le 6, 3) := by decide +kernel
theorem dX11_row_26 : decode cX11_row 26 = .ok (.ldc 72, 2) := by decide +kernel
theorem dX11_row_28 : decode cX11_row 28 = .ok (.ireturn, 1) := by decide +kernel
theorem dX11_row_29 : decode cX11_row 29 = .ok (.iload_n 3, 1) := by decide +kernel
theorem dX11_row_30 : decode cX11_row 30 = .ok (.ifCond .ge 9, 3) := by decide +kernel
theorem dX11_row_33 : decode cX11_row 33 = .ok (.aload_n 0, 1) := by decide +kernel
theorem dX11_row_34 : decode cX11_row 34 = .ok (.iconst 4, 1) := by decide +kernel
theorem dX11_row_35 : decode cX11_row 35 = .ok (.invokevirtual 73, 3) := by decide +kernel
theorem dX11_row_38 : decode cX11_row 38 = .ok (.ireturn, 1) := by decide +kernel
theorem dX11_row_39 : decode cX11_row 39 = .ok (.aload_n 0, 1) := by decide +kernel
theorem dX11_row_40 : decode cX11_row 40 = .ok (.getfield 10, 3) := by decide +kernel
theorem dX11_row_43 : decode cX11_row 43 = .ok (.iload_n 1, 1) := by decide +kernel
theorem dX11_row_44 : decode cX11_row 44 = .ok (.iload_n 2, 1) := by decide +kernel
theorem dX11_row_45 : decode cX11_row 45 = .ok (.iload_n 3, 1) := by decide +kernel
theorem dX11_row_46 : decode cX11_row 46 = .ok (.invokevirtual 77, 3) := by decide +kernel
theorem dX11_row_49 : decode cX11_row 49 = .ok (.aload_n 0, 1) := by decide +kernel
theorem dX11_row_50 : decode cX11_row 50 = .ok (.iload_n 3, 1) := by decide +kernel
theorem dX11_row_51 : decode cX11_row 51 = .ok (.invokevirtual 81, 3) := by decide +kernel
theorem dX11_row_54 : decode cX11_row 54 = .ok (.ireturn, 1) := by decide +kernel
theorem dX11_set_0 : decode cX11_set 0 = .ok (.aload_n 0, 1) := by decide +kernel
theorem dX11_set_1 : decode cX11_set 1 = .ok (.getfield 10, 3) := by decide +kernel
theorem dX11_set_4 : decode cX11_set 4 = .ok (.iload_n 1, 1) := by decide +kernel
theorem dX11_set_5 : decode cX11_set 5 = .ok (.invokevirtual 64, 3) := by decide +kernel
theorem dX11_set_8 : decode cX11_set 8 = .ok (.ifCond .ne 6, 3) := by decide +kernel
theorem dX11_set_11 : decode cX11_set 11 = .ok (.ldc 72, 2) := by decide +kernel
theorem dX11_set_13 : decode cX11_set 13 = .ok (.ireturn, 1) := by decide +kernel
theorem dX11_set_14 : decode cX11_set 14 = .ok (.aload_n 0, 1) := by decide +kernel
theorem dX11_set_15 : decode cX11_set 15 = .ok (.getfield 10, 3) := by decide +kernel
theorem dX11_set_18 : decode cX11_set 18 = .ok (.iload_n 1, 1) := by decide +kernel
theorem dX11_set_19 : decode cX11_set 19 = .ok (.invokevirtual 84, 3) := by decide +kernel
theorem dX11_set_22 : decode cX11_set 22 = .ok (.ifCond .eq 9, 3) := by decide +kernel
theorem dX11_set_25 : decode cX11_set 25 = .ok (.aload_n 0, 1) := by decide +kernel
theorem dX11_set_26 : decode cX11_set 26 = .ok (.iconst 1, 1) := by decide +kernel
theorem dX11_set_27 : decode cX11_set 27 = .ok (.invokevirtual 73, 3) := by decide +kernel
theorem dX11_set_30 : decode cX11_set 30 = .ok (.ireturn, 1) := by decide +kernel
theorem dX11_set_31 : decode cX11_set 31 = .ok (.aload_n 0, 1) := by decide +kernel
theorem dX11_set_32 : decode cX11_set 32 = .ok (.getfield 10, 3) := by decide +kernel
theorem dX11_set_35 : decode cX11_set 35 = .ok (.iload_n 1, 1) := by decide +kernel
theorem dX11_set_36 : decode cX11_set 36 = .ok (.iload_n 2, 1) := by decide +kernel
theorem dX11_set_37 : decode cX11_set 37 = .ok (.iconst 1, 1) := by decide +kernel
theorem dX11_set_38 : decode cX11_set 38 = .ok (.invokevirtual 87, 3) := by decide +kernel
theorem dX11_set_41 : decode cX11_set 41 = .ok (.ifCond .ne 9, 3) := by decide +kernel
theorem dX11_set_44 : decode cX11_set 44 = .ok (.aload_n 0, 1) := by decide +kernel
theorem dX11_set_45 : decode cX11_set 45 = .ok (.iconst 2, 1) := by decide +kernel
theorem dX11_set_46 : decode cX11_set 46 = .ok (.invokevirtual 73, 3) := by decide +kernel
theorem dX11_set_49 : decode cX11_set 49 = .ok (.ireturn, 1) := by decide +kernel
theorem dX11_set_50 : decode cX11_set 50 = .ok (.aload_n 0, 1) := by decide +kernel
theorem dX11_set_51 : decode cX11_set 51 = .ok (.aload_n 0, 1) := by decide +kernel
theorem dX11_set_52 : decode cX11_set 52 = .ok (.getfield 10, 3) := by decide +kernel
theorem dX11_set_55 : decode cX11_set 55 = .ok (.iload_n 1, 1) := by decide +kernel
theorem dX11_set_56 : decode cX11_set 56 = .ok (.iload_n 2, 1) := by decide +kernel
theorem dX11_set_57 : decode cX11_set 57 = .ok (.iload_n 3, 1) := by decide +kernel
theorem dX11_set_58 : decode cX11_set 58 = .ok (.invokevirtual 90, 3) := by decide +kernel
theorem dX11_set_61 : decode cX11_set 61 = .ok (.invokevirtual 81, 3) := by decide +kernel
theorem dX11_set_64 : decode cX11_set 64 = .ok (.ireturn, 1) := by decide +kernel
theorem dX11_copy_0 : decode cX11_copy 0 = .ok (.aload_n 0, 1) := by decide +kernel
theorem dX11_copy_1 : decode cX11_copy 1 = .ok (.getfield 10, 3) := by decide +kernel
theorem dX11_copy_4 : decode cX11_copy 4 = .ok (.iload_n 1, 1) := by decide +kernel
theorem dX11_copy_5 : decode cX11_copy 5 = .ok (.invokevirtual 64, 3) := by decide +kernel
theorem dX11_copy_8 : decode cX11_copy 8 = .ok (.ifCond .eq 14, 3) := by decide +kernel
theorem dX11_copy_11 : decode cX11_copy 11 = .ok (.aload_n 0, 1) := by decide +kernel
theorem dX11_copy_12 : decode cX11_copy 12 = .ok (.getfield 10, 3) := by decide +kernel
theorem dX11_copy_15 : decode cX11_copy 15 = .ok (.iload_n 3, 1) := by decide +kernel
theorem dX11_copy_16 : decode cX11_copy 16 = .ok (.invokevirtual 64, 3) := by decide +kernel
theorem dX11_copy_19 : decode cX11_copy 19 = .ok (.ifCond .ne 6, 3) := by decide +kernel
theorem dX11_copy_22 : decode cX11_copy 22 = .ok (.ldc 72, 2) := by decide +kernel
theorem dX11_copy_24 : decode cX11_copy 24 = .ok (.ireturn, 1) := by decide +kernel
theorem dX11_copy_25 : decode cX11_copy 25 = .ok (.aload_n 0, 1) := by decide +kernel
theorem dX11_copy_26 : decode cX11_copy 26 = .ok (.getfield 10, 3) := by decide +kernel
theorem dX11_copy_29 : decode cX11_copy 29 = .ok (.iload_n 1, 1) := by decide +kernel
theorem dX11_copy_30 : decode cX11_copy 30 = .ok (.invokevirtual 84, 3) := by decide +kernel
theorem dX11_copy_33 : decode cX11_copy 33 = .ok (.ifCond .ne 14, 3) := by decide +kernel
theorem dX11_copy_36 : decode cX11_copy 36 = .ok (.aload_n 0, 1) := by decide +kernel
theorem dX11_copy_37 : decode cX11_copy 37 = .ok (.getfield 10, 3) := by decide +kernel
theorem dX11_copy_40 : decode cX11_copy 40 = .ok (.iload_n 3, 1) := by decide +kernel
theorem dX11_copy_41 : decode cX11_copy 41 = .ok (.invokevirtual 84, 3) := by decide +kernel
theorem dX11_copy_44 : decode cX11_copy 44 = .ok (.ifCond .eq 9, 3) := by decide +kernel
theorem dX11_copy_47 : decode cX11_copy 47 = .ok (.aload_n 0, 1) := by decide +kernel
theorem dX11_copy_48 : decode cX11_copy 48 = .ok (.iconst 1, 1) := by decide +kernel
theorem dX11_copy_49 : decode cX11_copy 49 = .ok (.invokevirtual 73, 3) := by decide +kernel
theorem dX11_copy_52 : decode cX11_copy 52 = .ok (.ireturn, 1) := by decide +kernel
theorem dX11_copy_53 : decode cX11_copy 53 = .ok (.aload_n 0, 1) := by decide +kernel
theorem dX11_copy_54 : decode cX11_copy 54 = .ok (.getfield 10, 3) := by decide +kernel
theorem dX11_copy_57 : decode cX11_copy 57 = .ok (.iload_n 1, 1) := by decide +kernel
theorem dX11_copy_58 : decode cX11_copy 58 = .ok (.iload_n 3, 1) := by decide +kernel
theorem dX11_copy_59 : decode cX11_copy 59 = .ok (.invokevirtual 94, 3) := by decide +kernel
theorem dX11_copy_62 : decode cX11_copy 62 = .ok (.ifCond .ne 9, 3) := by decide +kernel
theorem dX11_copy_65 : decode cX11_copy 65 = .ok (.aload_n 0, 1) := by decide +kernel
theorem dX11_copy_66 : decode cX11_copy 66 = .ok (.iconst 5, 1) := by decide +kernel
theorem dX11_copy_67 : decode cX11_copy 67 = .ok (.invokevirtual 73, 3) := by decide +kernel
theorem dX11_copy_70 : decode cX11_copy 70 = .ok (.ireturn, 1) := by decide +kernel
theorem dX11_copy_71 : decode cX11_copy 71 = .ok (.aload_n 0, 1) := by decide +kernel
theorem dX11_copy_72 : decode cX11_copy 72 = .ok (.getfield 10, 3) := by decide +kernel
theorem dX11_copy_75 : decode cX11_copy 75 = .ok (.iload_n 1, 1) := by decide +kernel
theorem dX11_copy_76 : decode cX11_copy 76 = .ok (.iload_n 2, 1) := by decide +kernel
theorem dX11_copy_77 : decode cX11_copy 77 = .ok (.iload 5, 2) := by decide +kernel
theorem dX11_copy_79 : decode cX11_copy 79 = .ok (.invokevirtual 87, 3) := by decide +kernel
theorem dX11_copy_82 : decode cX11_copy 82 = .ok (.ifCond .eq 18, 3) := by decide +kernel
theorem dX11_copy_85 : decode cX11_copy 85 = .ok (.aload_n 0, 1) := by decide +kernel
theorem dX11_copy_86 : decode cX11_copy 86 = .ok (.getfield 10, 3) := by decide +kernel
theorem dX11_copy_89 : decode cX11_copy 89 = .ok (.iload_n 3, 1) := by decide +kernel
theorem dX11_copy_90 : decode cX11_copy 90 = .ok (.iload 4, 2) := by decide +kernel
theorem dX11_copy_92 : decode cX11_copy 92 = .ok (.iload 5, 2) := by decide +kernel
theorem dX11_copy_94 : decode cX11_copy 94 = .ok (.invokevirtual 87, 3) := by decide +kernel
theorem dX11_copy_97 : decode cX11_copy 97 = .ok (.ifCond .ne 9, 3) := by decide +kernel
theorem dX11_copy_100 : decode cX11_copy 100 = .ok (.aload_n 0, 1) := by decide +kernel
theorem dX11_copy_101 : decode cX11_copy 101 = .ok (.iconst 2, 1) := by decide +kernel
theorem dX11_copy_102 : decode cX11_copy 102 = .ok (.invokevirtual 73, 3) := by decide +kernel
theorem dX11_copy_105 : decode cX11_copy 105 = .ok (.ireturn, 1) := by decide +kernel
theorem dX11_copy_106 : decode cX11_copy 106 = .ok (.aload_n 0, 1) := by decide +kernel
theorem dX11_copy_107 : decode cX11_copy 107 = .ok (.getfield 10, 3) := by decide +kernel
theorem dX11_copy_110 : decode cX11_copy 110 = .ok (.iload_n 1, 1) := by decide +kernel
theorem dX11_copy_111 : decode cX11_copy 111 = .ok (.iload_n 2, 1) := by decide +kernel
theorem dX11_copy_112 : decode cX11_copy 112 = .ok (.iload_n 3, 1) := by decide +kernel
theorem dX11_copy_113 : decode cX11_copy 113 = .ok (.iload 4, 2) := by decide +kernel
theorem dX11_copy_115 : decode cX11_copy 115 = .ok (.iload 5, 2) := by decide +kernel
theorem dX11_copy_117 : decode cX11_copy 117 = .ok (.invokevirtual 98, 3) := by decide +kernel
theorem dX11_copy_120 : decode cX11_copy 120 = .ok (.aload_n 0, 1) := by decide +kernel
theorem dX11_copy_121 : decode cX11_copy 121 = .ok (.iload 5, 2) := by decide +kernel
theorem dX11_copy_123 : decode cX11_copy 123 = .ok (.invokevirtual 81, 3) := by decide +kernel
theorem dX11_copy_126 : decode cX11_copy 126 = .ok (.ireturn, 1) := by decide +kernel
theorem dX11_drop_0 : decode cX11_drop 0 = .ok (.aload_n 0, 1) := by decide +kernel
theorem dX11_drop_1 : decode cX11_drop 1 = .ok (.getfield 10, 3) := by decide +kernel
theorem dX11_drop_4 : decode cX11_drop 4 = .ok (.iload_n 1, 1) := by decide +kernel
theorem dX11_drop_5 : decode cX11_drop 5 = .ok (.invokevirtual 64, 3) := by decide +kernel
theorem dX11_drop_8 : decode cX11_drop 8 = .ok (.ifCond .ne 6, 3) := by decide +kernel
theorem dX11_drop_11 : decode cX11_drop 11 = .ok (.ldc 72, 2) := by decide +kernel
theorem dX11_drop_13 : decode cX11_drop 13 = .ok (.ireturn, 1) := by decide +kernel
theorem dX11_drop_14 : decode cX11_drop 14 = .ok (.aload_n 0, 1) := by decide +kernel
theorem dX11_drop_15 : decode cX11_drop 15 = .ok (.getfield 10, 3) := by decide +kernel
theorem dX11_drop_18 : decode cX11_drop 18 = .ok (.iload_n 1, 1) := by decide +kernel
theorem dX11_drop_19 : decode cX11_drop 19 = .ok (.invokevirtual 84, 3) := by decide +kernel
theorem dX11_drop_22 : decode cX11_drop 22 = .ok (.ifCond .eq 9, 3) := by decide +kernel
theorem dX11_drop_25 : decode cX11_drop 25 = .ok (.aload_n 0, 1) := by decide +kernel
theorem dX11_drop_26 : decode cX11_drop 26 = .ok (.iconst 1, 1) := by decide +kernel
theorem dX11_drop_27 : decode cX11_drop 27 = .ok (.invokevirtual 73, 3) := by decide +kernel
theorem dX11_drop_30 : decode cX11_drop 30 = .ok (.ireturn, 1) := by decide +kernel
theorem dX11_drop_31 : decode cX11_drop 31 = .ok (.aload_n 0, 1) := by decide +kernel
theorem dX11_drop_32 : decode cX11_drop 32 = .ok (.aload_n 0, 1) := by decide +kernel
theorem dX11_drop_33 : decode cX11_drop 33 = .ok (.getfield 10, 3) := by decide +kernel
theorem dX11_drop_36 : decode cX11_drop 36 = .ok (.iload_n 1, 1) := by decide +kernel
theorem dX11_drop_37 : decode cX11_drop 37 = .ok (.invokevirtual 102, 3) := by decide +kernel
theorem dX11_drop_40 : decode cX11_drop 40 = .ok (.invokevirtual 81, 3) := by decide +kernel
theorem dX11_drop_43 : decode cX11_drop 43 = .ok (.ireturn, 1) := by decide +kernel
theorem dX11_feed_0 : decode cX11_feed 0 = .ok (.iload_n 3, 1) := by decide +kernel
theorem dX11_feed_1 : decode cX11_feed 1 = .ok (.iconst 1, 1) := by decide +kernel
theorem dX11_feed_2 : decode cX11_feed 2 = .ok (.bipush 8, 2) := by decide +kernel
theorem dX11_feed_4 : decode cX11_feed 4 = .ok (.invokestatic 68, 3) := by decide +kernel
theorem dX11_feed_7 : decode cX11_feed 7 = .ok (.ifCond .ne 6, 3) := by decide +kernel
theorem dX11_feed_10 : decode cX11_feed 10 = .ok (.ldc 72, 2) := by decide +kernel
theorem dX11_feed_12 : decode cX11_feed 12 = .ok (.ireturn, 1) := by decide +kernel
theorem dX11_feed_13 : decode cX11_feed 13 = .ok (.aload_n 0, 1) := by decide +kernel
theorem dX11_feed_14 : decode cX11_feed 14 = .ok (.getfield 19, 3) := by decide +kernel
theorem dX11_feed_17 : decode cX11_feed 17 = .ok (.iload_n 3, 1) := by decide +kernel
theorem dX11_feed_18 : decode cX11_feed 18 = .ok (.invokevirtual 105, 3) := by decide +kernel
theorem dX11_feed_21 : decode cX11_feed 21 = .ok (.ifCond .ne 6, 3) := by decide +kernel
theorem dX11_feed_24 : decode cX11_feed 24 = .ok (.ldc 108, 2) := by decide +kernel
theorem dX11_feed_26 : decode cX11_feed 26 = .ok (.ireturn, 1) := by decide +kernel
theorem dX11_feed_27 : decode cX11_feed 27 = .ok (.aload_n 0, 1) := by decide +kernel
theorem dX11_feed_28 : decode cX11_feed 28 = .ok (.getfield 19, 3) := by decide +kernel
theorem dX11_feed_31 : decode cX11_feed 31 = .ok (.lload_n 1, 1) := by decide +kernel
theorem dX11_feed_32 : decode cX11_feed 32 = .ok (.iload_n 3, 1) := by decide +kernel
theorem dX11_feed_33 : decode cX11_feed 33 = .ok (.invokevirtual 109, 3) := by decide +kernel
theorem dX11_feed_36 : decode cX11_feed 36 = .ok (.ireturn, 1) := by decide +kernel
theorem dX11_court_0 : decode cX11_court 0 = .ok (.aload_n 0, 1) := by decide +kernel
theorem dX11_court_1 : decode cX11_court 1 = .ok (.getfield 19, 3) := by decide +kernel
theorem dX11_court_4 : decode cX11_court 4 = .ok (.invokevirtual 113, 3) := by decide +kernel
theorem dX11_court_7 : decode cX11_court 7 = .ok (.astore_n 1, 1) := by decide +kernel
theorem dX11_court_8 : decode cX11_court 8 = .ok (.aload_n 0, 1) := by decide +kernel
theorem dX11_court_9 : decode cX11_court 9 = .ok (.getfield 19, 3) := by decide +kernel
theorem dX11_court_12 : decode cX11_court 12 = .ok (.getfield 117, 3) := by decide +kernel
theorem dX11_court_15 : decode cX11_court 15 = .ok (.ifCond .eq 25, 3) := by decide +kernel
theorem dX11_court_18 : decode cX11_court 18 = .ok (.aload_n 0, 1) := by decide +kernel
theorem dX11_court_19 : decode cX11_court 19 = .ok (.aload_n 0, 1) := by decide +kernel
theorem dX11_court_20 : decode cX11_court 20 = .ok (.getfield 19, 3) := by decide +kernel
theorem dX11_court_23 : decode cX11_court 23 = .ok (.getfield 117, 3) := by decide +kernel
theorem dX11_court_26 : decode cX11_court 26 = .ok (.putfield 121, 3) := by decide +kernel
theorem dX11_court_29 : decode cX11_court 29 = .ok (.ldc 124, 2) := by decide +kernel
theorem dX11_court_31 : decode cX11_court 31 = .ok (.aload_n 0, 1) := by decide +kernel
theorem dX11_court_32 : decode cX11_court 32 = .ok (.getfield 19, 3) := by decide +kernel
theorem dX11_court_35 : decode cX11_court 35 = .ok (.getfield 125, 3) := by decide +kernel
theorem dX11_court_38 : decode cX11_court 38 = .ok (.isub, 1) := by decide +kernel
theorem dX11_court_39 : decode cX11_court 39 = .ok (.ireturn, 1) := by decide +kernel
theorem dX11_court_40 : decode cX11_court 40 = .ok (.aload_n 0, 1) := by decide +kernel
theorem dX11_court_41 : decode cX11_court 41 = .ok (.getfield 48, 3) := by decide +kernel
theorem dX11_court_44 : decode cX11_court 44 = .ok (.aload_n 1, 1) := by decide +kernel
theorem dX11_court_45 : decode cX11_court 45 = .ok (.invokevirtual 128, 3) := by decide +kernel
theorem dX11_court_48 : decode cX11_court 48 = .ok (.aload_n 1, 1) := by decide +kernel
theorem dX11_court_49 : decode cX11_court 49 = .ok (.getfield 131, 3) := by decide +kernel
theorem dX11_court_52 : decode cX11_court 52 = .ok (.ireturn, 1) := by decide +kernel
theorem dX11_fault_0 : decode cX11_fault 0 = .ok (.aload_n 0, 1) := by decide +kernel
theorem dX11_fault_1 : decode cX11_fault 1 = .ok (.getfield 121, 3) := by decide +kernel
theorem dX11_fault_4 : decode cX11_fault 4 = .ok (.ireturn, 1) := by decide +kernel
theorem dX11_hang_0 : decode cX11_hang 0 = .ok (.aload_n 0, 1) := by decide +kernel
theorem dX11_hang_1 : decode cX11_hang 1 = .ok (.iload_n 1, 1) := by decide +kernel
theorem dX11_hang_2 : decode cX11_hang 2 = .ok (.invokevirtual 134, 3) := by decide +kernel
theorem dX11_hang_5 : decode cX11_hang 5 = .ok (.ifCond .eq 11, 3) := by decide +kernel
theorem dX11_hang_8 : decode cX11_hang 8 = .ok (.aload_n 0, 1) := by decide +kernel
theorem dX11_hang_9 : decode cX11_hang 9 = .ok (.iload_n 2, 1) := by decide +kernel
theorem dX11_hang_10 : decode cX11_hang 10 = .ok (.invokevirtual 137, 3) := by decide +kernel
theorem dX11_hang_13 : decode cX11_hang 13 = .ok (.ifCond .ne 6, 3) := by decide +kernel
theorem dX11_hang_16 : decode cX11_hang 16 = .ok (.ldc 72, 2) := by decide +kernel
theorem dX11_hang_18 : decode cX11_hang 18 = .ok (.ireturn, 1) := by decide +kernel
theorem dX11_hang_19 : decode cX11_hang 19 = .ok (.aload_n 0, 1) := by decide +kernel
theorem dX11_hang_20 : decode cX11_hang 20 = .ok (.getfield 48, 3) := by decide +kernel
theorem dX11_hang_23 : decode cX11_hang 23 = .ok (.iload_n 1, 1) := by decide +kernel
theorem dX11_hang_24 : decode cX11_hang 24 = .ok (.iload_n 2, 1) := by decide +kernel
theorem dX11_hang_25 : decode cX11_hang 25 = .ok (.invokevirtual 140, 3) := by decide +kernel
theorem dX11_hang_28 : decode cX11_hang 28 = .ok (.istore_n 3, 1) := by decide +kernel
theorem dX11_hang_29 : decode cX11_hang 29 = .ok (.iload_n 3, 1) := by decide +kernel
theorem dX11_hang_30 : decode cX11_hang 30 = .ok (.ifCond .eq 5, 3) := by decide +kernel
theorem dX11_hang_33 : decode cX11_hang 33 = .ok (.iload_n 3, 1) := by decide +kernel
theorem dX11_hang_34 : decode cX11_hang 34 = .ok (.ireturn, 1) := by decide +kernel
theorem dX11_hang_35 : decode cX11_hang 35 = .ok (.aload_n 0, 1) := by decide +kernel
theorem dX11_hang_36 : decode cX11_hang 36 = .ok (.getfield 48, 3) := by decide +kernel
theorem dX11_hang_39 : decode cX11_hang 39 = .ok (.iload_n 1, 1) := by decide +kernel
theorem dX11_hang_40 : decode cX11_hang 40 = .ok (.iload_n 2, 1) := by decide +kernel
theorem dX11_hang_41 : decode cX11_hang 41 = .ok (.invokevirtual 144, 3) := by decide +kernel
theorem dX11_hang_44 : decode cX11_hang 44 = .ok (.aload_n 0, 1) := by decide +kernel
theorem dX11_hang_45 : decode cX11_hang 45 = .ok (.getfield 48, 3) := by decide +kernel
theorem dX11_hang_48 : decode cX11_hang 48 = .ok (.iload_n 1, 1) := by decide +kernel
theorem dX11_hang_49 : decode cX11_hang 49 = .ok (.iload_n 2, 1) := by decide +kernel
theorem dX11_hang_50 : decode cX11_hang 50 = .ok (.invokevirtual 148, 3) := by decide +kernel
theorem dX11_hang_53 : decode cX11_hang 53 = .ok (.ireturn, 1) := by decide +kernel
theorem dX11_take_0 : decode cX11_take 0 = .ok (.aload_n 0, 1) := by decide +kernel
theorem dX11_take_1 : decode cX11_take 1 = .ok (.iload_n 1, 1) := by decide +kernel
theorem dX11_take_2 : decode cX11_take 2 = .ok (.invokevirtual 134, 3) := by decide +kernel
theorem dX11_take_5 : decode cX11_take 5 = .ok (.ifCond .ne 6, 3) := by decide +kernel
theorem dX11_take_8 : decode cX11_take 8 = .ok (.ldc 72, 2) := by decide +kernel
theorem dX11_take_10 : decode cX11_take 10 = .ok (.ireturn, 1) := by decide +kernel
theorem dX11_take_11 : decode cX11_take 11 = .ok (.aload_n 0, 1) := by decide +kernel
theorem dX11_take_12 : decode cX11_take 12 = .ok (.getfield 48, 3) := by decide +kernel
theorem dX11_take_15 : decode cX11_take 15 = .ok (.iload_n 1, 1) := by decide +kernel
theorem dX11_take_16 : decode cX11_take 16 = .ok (.invokevirtual 151, 3) := by decide +kernel
theorem dX11_take_19 : decode cX11_take 19 = .ok (.ifCond .ne 6, 3) := by decide +kernel
theorem dX11_take_22 : decode cX11_take 22 = .ok (.ldc 154, 2) := by decide +kernel
theorem dX11_take_24 : decode cX11_take 24 = .ok (.ireturn, 1) := by decide +kernel
theorem dX11_take_25 : decode cX11_take 25 = .ok (.aload_n 0, 1) := by decide +kernel
theorem dX11_take_26 : decode cX11_take 26 = .ok (.getfield 48, 3) := by decide +kernel
theorem dX11_take_29 : decode cX11_take 29 = .ok (.iload_n 1, 1) := by decide +kernel
theorem dX11_take_30 : decode cX11_take 30 = .ok (.invokevirtual 155, 3) := by decide +kernel
theorem dX11_take_33 : decode cX11_take 33 = .ok (.ireturn, 1) := by decide +kernel
theorem dX11_quarters_0 : decode cX11_quarters 0 = .ok (.aload_n 0, 1) := by decide +kernel
theorem dX11_quarters_1 : decode cX11_quarters 1 = .ok (.invokevirtual 158, 3) := by decide +kernel
theorem dX11_quarters_4 : decode cX11_quarters 4 = .ok (.ifCond .eq 6, 3) := by decide +kernel
theorem dX11_quarters_7 : decode cX11_quarters 7 = .ok (.ldc 154, 2) := by decide +kernel
theorem dX11_quarters_9 : decode cX11_quarters 9 = .ok (.ireturn, 1) := by decide +kernel
theorem dX11_quarters_10 : decode cX11_quarters 10 = .ok (.iload_n 1, 1) := by decide +kernel
theorem dX11_quarters_11 : decode cX11_quarters 11 = .ok (.iconst 1, 1) := by decide +kernel
theorem dX11_quarters_12 : decode cX11_quarters 12 = .ok (.bipush 96, 2) := by decide +kernel
theorem dX11_quarters_14 : decode cX11_quarters 14 = .ok (.invokestatic 68, 3) := by decide +kernel
theorem dX11_quarters_17 : decode cX11_quarters 17 = .ok (.ifCond .ne 6, 3) := by decide +kernel
theorem dX11_quarters_20 : decode cX11_quarters 20 = .ok (.ldc 72, 2) := by decide +kernel
theorem dX11_quarters_22 : decode cX11_quarters 22 = .ok (.ireturn, 1) := by decide +kernel
theorem dX11_quarters_23 : decode cX11_quarters 23 = .ok (.iconst 0, 1) := by decide +kernel
theorem dX11_quarters_24 : decode cX11_quarters 24 = .ok (.istore_n 2, 1) := by decide +kernel
theorem dX11_quarters_25 : decode cX11_quarters 25 = .ok (.iload_n 2, 1) := by decide +kernel
theorem dX11_quarters_26 : decode cX11_quarters 26 = .ok (.iload_n 1, 1) := by decide +kernel
theorem dX11_quarters_27 : decode cX11_quarters 27 = .ok (.if_icmp .ge 16, 3) := by decide +kernel
theorem dX11_quarters_30 : decode cX11_quarters 30 = .ok (.aload_n 0, 1) := by decide +kernel
theorem dX11_quarters_31 : decode cX11_quarters 31 = .ok (.getfield 48, 3) := by decide +kernel
theorem dX11_quarters_34 : decode cX11_quarters 34 = .ok (.invokevirtual 162, 3) := by decide +kernel
theorem dX11_quarters_37 : decode cX11_quarters 37 = .ok (.iinc 2 1, 3) := by decide +kernel
theorem dX11_quarters_40 : decode cX11_quarters 40 = .ok (.goto (-15), 3) := by decide +kernel
theorem dX11_quarters_43 : decode cX11_quarters 43 = .ok (.aload_n 0, 1) := by decide +kernel
theorem dX11_quarters_44 : decode cX11_quarters 44 = .ok (.getfield 48, 3) := by decide +kernel
theorem dX11_quarters_47 : decode cX11_quarters 47 = .ok (.getfield 165, 3) := by decide +kernel
theorem dX11_quarters_50 : decode cX11_quarters 50 = .ok (.ireturn, 1) := by decide +kernel
theorem dX11_lay_0 : decode cX11_lay 0 = .ok (.aload_n 0, 1) := by decide +kernel
theorem dX11_lay_1 : decode cX11_lay 1 = .ok (.invokevirtual 158, 3) := by decide +kernel
theorem dX11_lay_4 : decode cX11_lay 4 = .ok (.ifCond .eq 6, 3) := by decide +kernel
theorem dX11_lay_7 : decode cX11_lay 7 = .ok (.ldc 154, 2) := by decide +kernel
theorem dX11_lay_9 : decode cX11_lay 9 = .ok (.ireturn, 1) := by decide +kernel
theorem dX11_lay_10 : decode cX11_lay 10 = .ok (.aload_n 0, 1) := by decide +kernel
theorem dX11_lay_11 : decode cX11_lay 11 = .ok (.getfield 10, 3) := by decide +kernel
theorem dX11_lay_14 : decode cX11_lay 14 = .ok (.iload_n 1, 1) := by decide +kernel
theorem dX11_lay_15 : decode cX11_lay 15 = .ok (.invokevirtual 64, 3) := by decide +kernel
theorem dX11_lay_18 : decode cX11_lay 18 = .ok (.ifCond .ne 6, 3) := by decide +kernel
theorem dX11_lay_21 : decode cX11_lay 21 = .ok (.ldc 72, 2) := by decide +kernel
theorem dX11_lay_23 : decode cX11_lay 23 = .ok (.ireturn, 1) := by decide +kernel
theorem dX11_lay_24 : decode cX11_lay 24 = .ok (.aload_n 0, 1) := by decide +kernel
theorem dX11_lay_25 : decode cX11_lay 25 = .ok (.getfield 10, 3) := by decide +kernel
theorem dX11_lay_28 : decode cX11_lay 28 = .ok (.iload_n 1, 1) := by decide +kernel
theorem dX11_lay_29 : decode cX11_lay 29 = .ok (.invokevirtual 84, 3) := by decide +kernel
theorem dX11_lay_32 : decode cX11_lay 32 = .ok (.ifCond .eq 9, 3) := by decide +kernel
theorem dX11_lay_35 : decode cX11_lay 35 = .ok (.aload_n 0, 1) := by decide +kernel
theorem dX11_lay_36 : decode cX11_lay 36 = .ok (.iconst 1, 1) := by decide +kernel
theorem dX11_lay_37 : decode cX11_lay 37 = .ok (.invokevirtual 73, 3) := by decide +kernel
theorem dX11_lay_40 : decode cX11_lay 40 = .ok (.ireturn, 1) := by decide +kernel
theorem dX11_lay_41 : decode cX11_lay 41 = .ok (.aload_n 0, 1) := by decide +kernel
theorem dX11_lay_42 : decode cX11_lay 42 = .ok (.getfield 48, 3) := by decide +kernel
theorem dX11_lay_45 : decode cX11_lay 45 = .ok (.getfield 168, 3) := by decide +kernel
theorem dX11_lay_48 : decode cX11_lay 48 = .ok (.getfield 172, 3) := by decide +kernel
theorem dX11_lay_51 : decode cX11_lay 51 = .ok (.istore_n 3, 1) := by decide +kernel
theorem dX11_lay_52 : decode cX11_lay 52 = .ok (.aload_n 0, 1) := by decide +kernel
theorem dX11_lay_53 : decode cX11_lay 53 = .ok (.getfield 10, 3) := by decide +kernel
theorem dX11_lay_56 : decode cX11_lay 56 = .ok (.iload_n 1, 1) := by decide +kernel
theorem dX11_lay_57 : decode cX11_lay 57 = .ok (.iload_n 2, 1) := by decide +kernel
theorem dX11_lay_58 : decode cX11_lay 58 = .ok (.iload_n 3, 1) := by decide +kernel
theorem dX11_lay_59 : decode cX11_lay 59 = .ok (.invokevirtual 87, 3) := by decide +kernel
theorem dX11_lay_62 : decode cX11_lay 62 = .ok (.ifCond .ne 9, 3) := by decide +kernel
theorem dX11_lay_65 : decode cX11_lay 65 = .ok (.aload_n 0, 1) := by decide +kernel
theorem dX11_lay_66 : decode cX11_lay 66 = .ok (.iconst 2, 1) := by decide +kernel
theorem dX11_lay_67 : decode cX11_lay 67 = .ok (.invokevirtual 73, 3) := by decide +kernel
theorem dX11_lay_70 : decode cX11_lay 70 = .ok (.ireturn, 1) := by decide +kernel
theorem dX11_lay_71 : decode cX11_lay 71 = .ok (.aload_n 0, 1) := by decide +kernel
theorem dX11_lay_72 : decode cX11_lay 72 = .ok (.getfield 10, 3) := by decide +kernel
theorem dX11_lay_75 : decode cX11_lay 75 = .ok (.iload_n 1, 1) := by decide +kernel
theorem dX11_lay_76 : decode cX11_lay 76 = .ok (.iload_n 2, 1) := by decide +kernel
theorem dX11_lay_77 : decode cX11_lay 77 = .ok (.iload_n 3, 1) := by decide +kernel
theorem dX11_lay_78 : decode cX11_lay 78 = .ok (.iconst (-1), 1) := by decide +kernel
theorem dX11_lay_79 : decode cX11_lay 79 = .ok (.aload_n 0, 1) := by decide +kernel
theorem dX11_lay_80 : decode cX11_lay 80 = .ok (.getfield 48, 3) := by decide +kernel
theorem dX11_lay_83 : decode cX11_lay 83 = .ok (.getfield 168, 3) := by decide +kernel
theorem dX11_lay_86 : decode cX11_lay 86 = .ok (.getfield 131, 3) := by decide +kernel
theorem dX11_lay_89 : decode cX11_lay 89 = .ok (.iconst 1, 1) := by decide +kernel
theorem dX11_lay_90 : decode cX11_lay 90 = .ok (.isub, 1) := by decide +kernel
theorem dX11_lay_91 : decode cX11_lay 91 = .ok (.invokevirtual 175, 3) := by decide +kernel
theorem dX11_lay_94 : decode cX11_lay 94 = .ok (.ifCond .ne 6, 3) := by decide +kernel
theorem dX11_lay_97 : decode cX11_lay 97 = .ok (.ldc 72, 2) := by decide +kernel
theorem dX11_lay_99 : decode cX11_lay 99 = .ok (.ireturn, 1) := by decide +kernel
theorem dX11_lay_100 : decode cX11_lay 100 = .ok (.aload_n 0, 1) := by decide +kernel
theorem dX11_lay_101 : decode cX11_lay 101 = .ok (.iload_n 1, 1) := by decide +kernel
theorem dX11_lay_102 : decode cX11_lay 102 = .ok (.iload_n 2, 1) := by decide +kernel
theorem dX11_lay_103 : decode cX11_lay 103 = .ok (.invokevirtual 179, 3) := by decide +kernel
theorem dX11_lay_106 : decode cX11_lay 106 = .ok (.istore 4, 2) := by decide +kernel
theorem dX11_lay_108 : decode cX11_lay 108 = .ok (.iload 4, 2) := by decide +kernel
theorem dX11_lay_110 : decode cX11_lay 110 = .ok (.ifCond .eq 6, 3) := by decide +kernel
theorem dX11_lay_113 : decode cX11_lay 113 = .ok (.iload 4, 2) := by decide +kernel
theorem dX11_lay_115 : decode cX11_lay 115 = .ok (.ireturn, 1) := by decide +kernel
theorem dX11_lay_116 : decode cX11_lay 116 = .ok (.aload_n 0, 1) := by decide +kernel
theorem dX11_lay_117 : decode cX11_lay 117 = .ok (.getfield 48, 3) := by decide +kernel
theorem dX11_lay_120 : decode cX11_lay 120 = .ok (.aload_n 0, 1) := by decide +kernel
theorem dX11_lay_121 : decode cX11_lay 121 = .ok (.getfield 58, 3) := by decide +kernel
theorem dX11_lay_124 : decode cX11_lay 124 = .ok (.invokevirtual 182, 3) := by decide +kernel
theorem dX11_lay_127 : decode cX11_lay 127 = .ok (.aload_n 0, 1) := by decide +kernel
theorem dX11_lay_128 : decode cX11_lay 128 = .ok (.aload_n 0, 1) := by decide +kernel
theorem dX11_lay_129 : decode cX11_lay 129 = .ok (.getfield 48, 3) := by decide +kernel
theorem dX11_lay_132 : decode cX11_lay 132 = .ok (.invokevirtual 186, 3) := by decide +kernel
theorem dX11_lay_135 : decode cX11_lay 135 = .ok (.invokestatic 190, 3) := by decide +kernel
theorem dX11_lay_138 : decode cX11_lay 138 = .ok (.invokevirtual 81, 3) := by decide +kernel
theorem dX11_lay_141 : decode cX11_lay 141 = .ok (.ireturn, 1) := by decide +kernel
theorem dX11_piece_0 : decode cX11_piece 0 = .ok (.aload_n 0, 1) := by decide +kernel
theorem dX11_piece_1 : decode cX11_piece 1 = .ok (.iload_n 1, 1) := by decide +kernel
theorem dX11_piece_2 : decode cX11_piece 2 = .ok (.invokevirtual 134, 3) := by decide +kernel
theorem dX11_piece_5 : decode cX11_piece 5 = .ok (.ifCond .ne 6, 3) := by decide +kernel
theorem dX11_piece_8 : decode cX11_piece 8 = .ok (.ldc 72, 2) := by decide +kernel
theorem dX11_piece_10 : decode cX11_piece 10 = .ok (.ireturn, 1) := by decide +kernel
theorem dX11_piece_11 : decode cX11_piece 11 = .ok (.iload_n 2, 1) := by decide +kernel
theorem dX11_piece_12 : decode cX11_piece 12 = .ok (.tableswitch 116 0 4 #[36, 46, 72, 90, 103], 36) := by decide +kernel
theorem dX11_piece_48 : decode cX11_piece 48 = .ok (.aload_n 0, 1) := by decide +kernel
theorem dX11_piece_49 : decode cX11_piece 49 = .ok (.getfield 48, 3) := by decide +kernel
theorem dX11_piece_52 : decode cX11_piece 52 = .ok (.getfield 195, 3) := by decide +kernel
theorem dX11_piece_55 : decode cX11_piece 55 = .ok (.iload_n 1, 1) := by decide +kernel
theorem dX11_piece_56 : decode cX11_piece 56 = .ok (.iaload, 1) := by decide +kernel
theorem dX11_piece_57 : decode cX11_piece 57 = .ok (.ireturn, 1) := by decide +kernel
theorem dX11_piece_58 : decode cX11_piece 58 = .ok (.aload_n 0, 1) := by decide +kernel
theorem dX11_piece_59 : decode cX11_piece 59 = .ok (.getfield 48, 3) := by decide +kernel
theorem dX11_piece_62 : decode cX11_piece 62 = .ok (.iload_n 1, 1) := by decide +kernel
theorem dX11_piece_63 : decode cX11_piece 63 = .ok (.invokevirtual 151, 3) := by decide +kernel
theorem dX11_piece_66 : decode cX11_piece 66 = .ok (.ifCond .eq 15, 3) := by decide +kernel
theorem dX11_piece_69 : decode cX11_piece 69 = .ok (.aload_n 0, 1) := by decide +kernel
theorem dX11_piece_70 : decode cX11_piece 70 = .ok (.getfield 48, 3) := by decide +kernel
theorem dX11_piece_73 : decode cX11_piece 73 = .ok (.getfield 198, 3) := by decide +kernel
theorem dX11_piece_76 : decode cX11_piece 76 = .ok (.iload_n 1, 1) := by decide +kernel
theorem dX11_piece_77 : decode cX11_piece 77 = .ok (.iaload, 1) := by decide +kernel
theorem dX11_piece_78 : decode cX11_piece 78 = .ok (.goto 5, 3) := by decide +kernel
theorem dX11_piece_81 : decode cX11_piece 81 = .ok (.ldc 201, 2) := by decide +kernel
theorem dX11_piece_83 : decode cX11_piece 83 = .ok (.ireturn, 1) := by decide +kernel
theorem dX11_piece_84 : decode cX11_piece 84 = .ok (.aload_n 0, 1) := by decide +kernel
theorem dX11_piece_85 : decode cX11_piece 85 = .ok (.getfield 48, 3) := by decide +kernel
theorem dX11_piece_88 : decode cX11_piece 88 = .ok (.getfield 202, 3) := by decide +kernel
theorem dX11_piece_91 : decode cX11_piece 91 = .ok (.iload_n 1, 1) := by decide +kernel
theorem dX11_piece_92 : decode cX11_piece 92 = .ok (.baload, 1) := by decide +kernel
theorem dX11_piece_93 : decode cX11_piece 93 = .ok (.ifCond .eq 7, 3) := by decide +kernel
theorem dX11_piece_96 : decode cX11_piece 96 = .ok (.iconst 1, 1) := by decide +kernel
theorem dX11_piece_97 : decode cX11_piece 97 = .ok (.goto 4, 3) := by decide +kernel
theorem dX11_piece_100 : decode cX11_piece 100 = .ok (.iconst 0, 1) := by decide +kernel
theorem dX11_piece_101 : decode cX11_piece 101 = .ok (.ireturn, 1) := by decide +kernel
theorem dX11_piece_102 : decode cX11_piece 102 = .ok (.aload_n 0, 1) := by decide +kernel
theorem dX11_piece_103 : decode cX11_piece 103 = .ok (.getfield 48, 3) := by decide +kernel
theorem dX11_piece_106 : decode cX11_piece 106 = .ok (.getfield 168, 3) := by decide +kernel
theorem dX11_piece_109 : decode cX11_piece 109 = .ok (.getfield 206, 3) := by decide +kernel
theorem dX11_piece_112 : decode cX11_piece 112 = .ok (.iload_n 1, 1) := by decide +kernel
theorem dX11_piece_113 : decode cX11_piece 113 = .ok (.iaload, 1) := by decide +kernel
theorem dX11_piece_114 : decode cX11_piece 114 = .ok (.ireturn, 1) := by decide +kernel
theorem dX11_piece_115 : decode cX11_piece 115 = .ok (.aload_n 0, 1) := by decide +kernel
theorem dX11_piece_116 : decode cX11_piece 116 = .ok (.getfield 48, 3) := by decide +kernel
theorem dX11_piece_119 : decode cX11_piece 119 = .ok (.getfield 168, 3) := by decide +kernel
theorem dX11_piece_122 : decode cX11_piece 122 = .ok (.getfield 209, 3) := by decide +kernel
theorem dX11_piece_125 : decode cX11_piece 125 = .ok (.iload_n 1, 1) := by decide +kernel
theorem dX11_piece_126 : decode cX11_piece 126 = .ok (.iaload, 1) := by decide +kernel
theorem dX11_piece_127 : decode cX11_piece 127 = .ok (.ireturn, 1) := by decide +kernel
theorem dX11_piece_128 : decode cX11_piece 128 = .ok (.ldc 72, 2) := by decide +kernel
theorem dX11_piece_130 : decode cX11_piece 130 = .ok (.ireturn, 1) := by decide +kernel
theorem dX11_line_0 : decode cX11_line 0 = .ok (.aload_n 0, 1) := by decide +kernel
theorem dX11_line_1 : decode cX11_line 1 = .ok (.iload_n 1, 1) := by decide +kernel
theorem dX11_line_2 : decode cX11_line 2 = .ok (.invokevirtual 137, 3) := by decide +kernel
theorem dX11_line_5 : decode cX11_line 5 = .ok (.ifCond .ne 6, 3) := by decide +kernel
theorem dX11_line_8 : decode cX11_line 8 = .ok (.ldc 72, 2) := by decide +kernel
theorem dX11_line_10 : decode cX11_line 10 = .ok (.ireturn, 1) := by decide +kernel
theorem dX11_line_11 : decode cX11_line 11 = .ok (.iload_n 2, 1) := by decide +kernel
theorem dX11_line_12 : decode cX11_line 12 = .ok (.tableswitch 140 0 5 #[40, 53, 66, 79, 88, 107], 40) := by decide +kernel
theorem dX11_line_52 : decode cX11_line 52 = .ok (.aload_n 0, 1) := by decide +kernel
theorem dX11_line_53 : decode cX11_line 53 = .ok (.getfield 48, 3) := by decide +kernel
theorem dX11_line_56 : decode cX11_line 56 = .ok (.getfield 168, 3) := by decide +kernel
theorem dX11_line_59 : decode cX11_line 59 = .ok (.getfield 212, 3) := by decide +kernel
theorem dX11_line_62 : decode cX11_line 62 = .ok (.iload_n 1, 1) := by decide +kernel
theorem dX11_line_63 : decode cX11_line 63 = .ok (.iaload, 1) := by decide +kernel
theorem dX11_line_64 : decode cX11_line 64 = .ok (.ireturn, 1) := by decide +kernel
theorem dX11_line_65 : decode cX11_line 65 = .ok (.aload_n 0, 1) := by decide +kernel
theorem dX11_line_66 : decode cX11_line 66 = .ok (.getfield 48, 3) := by decide +kernel
theorem dX11_line_69 : decode cX11_line 69 = .ok (.getfield 168, 3) := by decide +kernel
theorem dX11_line_72 : decode cX11_line 72 = .ok (.getfield 215, 3) := by decide +kernel
theorem dX11_line_75 : decode cX11_line 75 = .ok (.iload_n 1, 1) := by decide +kernel
theorem dX11_line_76 : decode cX11_line 76 = .ok (.iaload, 1) := by decide +kernel
theorem dX11_line_77 : decode cX11_line 77 = .ok (.ireturn, 1) := by decide +kernel
theorem dX11_line_78 : decode cX11_line 78 = .ok (.aload_n 0, 1) := by decide +kernel
theorem dX11_line_79 : decode cX11_line 79 = .ok (.getfield 48, 3) := by decide +kernel
theorem dX11_line_82 : decode cX11_line 82 = .ok (.getfield 168, 3) := by decide +kernel
theorem dX11_line_85 : decode cX11_line 85 = .ok (.getfield 218, 3) := by decide +kernel
theorem dX11_line_88 : decode cX11_line 88 = .ok (.iload_n 1, 1) := by decide +kernel
theorem dX11_line_89 : decode cX11_line 89 = .ok (.iaload, 1) := by decide +kernel
theorem dX11_line_90 : decode cX11_line 90 = .ok (.ireturn, 1) := by decide +kernel
theorem dX11_line_91 : decode cX11_line 91 = .ok (.aload_n 0, 1) := by decide +kernel
theorem dX11_line_92 : decode cX11_line 92 = .ok (.getfield 48, 3) := by decide +kernel
theorem dX11_line_95 : decode cX11_line 95 = .ok (.iload_n 1, 1) := by decide +kernel
theorem dX11_line_96 : decode cX11_line 96 = .ok (.invokevirtual 221, 3) := by decide +kernel
theorem dX11_line_99 : decode cX11_line 99 = .ok (.ireturn, 1) := by decide +kernel
theorem dX11_line_100 : decode cX11_line 100 = .ok (.aload_n 0, 1) := by decide +kernel
theorem dX11_line_101 : decode cX11_line 101 = .ok (.getfield 48, 3) := by decide +kernel
theorem dX11_line_104 : decode cX11_line 104 = .ok (.getfield 168, 3) := by decide +kernel
theorem dX11_line_107 : decode cX11_line 107 = .ok (.iload_n 1, 1) := by decide +kernel
theorem dX11_line_108 : decode cX11_line 108 = .ok (.aload_n 0, 1) := by decide +kernel
theorem dX11_line_109 : decode cX11_line 109 = .ok (.getfield 48, 3) := by decide +kernel
theorem dX11_line_112 : decode cX11_line 112 = .ok (.invokevirtual 224, 3) := by decide +kernel
theorem dX11_line_115 : decode cX11_line 115 = .ok (.invokevirtual 227, 3) := by decide +kernel
theorem dX11_line_118 : decode cX11_line 118 = .ok (.ireturn, 1) := by decide +kernel
theorem dX11_line_119 : decode cX11_line 119 = .ok (.aload_n 0, 1) := by decide +kernel
theorem dX11_line_120 : decode cX11_line 120 = .ok (.getfield 48, 3) := by decide +kernel
theorem dX11_line_123 : decode cX11_line 123 = .ok (.getfield 168, 3) := by decide +kernel
theorem dX11_line_126 : decode cX11_line 126 = .ok (.getfield 230, 3) := by decide +kernel
theorem dX11_line_129 : decode cX11_line 129 = .ok (.iload_n 1, 1) := by decide +kernel
theorem dX11_line_130 : decode cX11_line 130 = .ok (.iaload, 1) := by decide +kernel
theorem dX11_line_131 : decode cX11_line 131 = .ok (.ifCond .ge 8, 3) := by decide +kernel
theorem dX11_line_134 : decode cX11_line 134 = .ok (.ldc 201, 2) := by decide +kernel
theorem dX11_line_136 : decode cX11_line 136 = .ok (.goto 15, 3) := by decide +kernel
theorem dX11_line_139 : decode cX11_line 139 = .ok (.aload_n 0, 1) := by decide +kernel
theorem dX11_line_140 : decode cX11_line 140 = .ok (.getfield 48, 3) := by decide +kernel
theorem dX11_line_143 : decode cX11_line 143 = .ok (.getfield 168, 3) := by decide +kernel
theorem dX11_line_146 : decode cX11_line 146 = .ok (.getfield 230, 3) := by decide +kernel
theorem dX11_line_149 : decode cX11_line 149 = .ok (.iload_n 1, 1) := by decide +kernel
theorem dX11_line_150 : decode cX11_line 150 = .ok (.iaload, 1) := by decide +kernel
theorem dX11_line_151 : decode cX11_line 151 = .ok (.ireturn, 1) := by decide +kernel
theorem dX11_line_152 : decode cX11_line 152 = .ok (.ldc 72, 2) := by decide +kernel
theorem dX11_line_154 : decode cX11_line 154 = .ok (.ireturn, 1) := by decide +kernel
theorem dX11_dry_0 : decode cX11_dry 0 = .ok (.aload_n 0, 1) := by decide +kernel
theorem dX11_dry_1 : decode cX11_dry 1 = .ok (.invokevirtual 158, 3) := by decide +kernel
theorem dX11_dry_4 : decode cX11_dry 4 = .ok (.ifCond .eq 6, 3) := by decide +kernel
theorem dX11_dry_7 : decode cX11_dry 7 = .ok (.ldc 154, 2) := by decide +kernel
theorem dX11_dry_9 : decode cX11_dry 9 = .ok (.ireturn, 1) := by decide +kernel
theorem dX11_dry_10 : decode cX11_dry 10 = .ok (.aload_n 0, 1) := by decide +kernel
theorem dX11_dry_11 : decode cX11_dry 11 = .ok (.getfield 61, 3) := by decide +kernel
theorem dX11_dry_14 : decode cX11_dry 14 = .ok (.aload_n 0, 1) := by decide +kernel
theorem dX11_dry_15 : decode cX11_dry 15 = .ok (.getfield 48, 3) := by decide +kernel
theorem dX11_dry_18 : decode cX11_dry 18 = .ok (.invokevirtual 182, 3) := by decide +kernel
theorem dX11_dry_21 : decode cX11_dry 21 = .ok (.iconst 0, 1) := by decide +kernel
theorem dX11_dry_22 : decode cX11_dry 22 = .ok (.istore_n 1, 1) := by decide +kernel
theorem dX11_dry_23 : decode cX11_dry 23 = .ok (.iload_n 1, 1) := by decide +kernel
theorem dX11_dry_24 : decode cX11_dry 24 = .ok (.bipush 96, 2) := by decide +kernel
theorem dX11_dry_26 : decode cX11_dry 26 = .ok (.if_icmp .gt 28, 3) := by decide +kernel
theorem dX11_dry_29 : decode cX11_dry 29 = .ok (.aload_n 0, 1) := by decide +kernel
theorem dX11_dry_30 : decode cX11_dry 30 = .ok (.getfield 61, 3) := by decide +kernel
theorem dX11_dry_33 : decode cX11_dry 33 = .ok (.invokevirtual 233, 3) := by decide +kernel
theorem dX11_dry_36 : decode cX11_dry 36 = .ok (.ifCond .eq 5, 3) := by decide +kernel
theorem dX11_dry_39 : decode cX11_dry 39 = .ok (.iload_n 1, 1) := by decide +kernel
theorem dX11_dry_40 : decode cX11_dry 40 = .ok (.ireturn, 1) := by decide +kernel
theorem dX11_dry_41 : decode cX11_dry 41 = .ok (.aload_n 0, 1) := by decide +kernel
theorem dX11_dry_42 : decode cX11_dry 42 = .ok (.getfield 61, 3) := by decide +kernel
theorem dX11_dry_45 : decode cX11_dry 45 = .ok (.invokevirtual 162, 3) := by decide +kernel
theorem dX11_dry_48 : decode cX11_dry 48 = .ok (.iinc 1 1, 3) := by decide +kernel
theorem dX11_dry_51 : decode cX11_dry 51 = .ok (.goto (-28), 3) := by decide +kernel
theorem dX11_dry_54 : decode cX11_dry 54 = .ok (.ldc 201, 2) := by decide +kernel
theorem dX11_dry_56 : decode cX11_dry 56 = .ok (.ireturn, 1) := by decide +kernel
theorem dX11_plan_0 : decode cX11_plan 0 = .ok (.aload_n 0, 1) := by decide +kernel
theorem dX11_plan_1 : decode cX11_plan 1 = .ok (.invokevirtual 158, 3) := by decide +kernel
theorem dX11_plan_4 : decode cX11_plan 4 = .ok (.ifCond .eq 6, 3) := by decide +kernel
theorem dX11_plan_7 : decode cX11_plan 7 = .ok (.ldc 154, 2) := by decide +kernel
theorem dX11_plan_9 : decode cX11_plan 9 = .ok (.ireturn, 1) := by decide +kernel
theorem dX11_plan_10 : decode cX11_plan 10 = .ok (.iload_n 1, 1) := by decide +kernel
theorem dX11_plan_11 : decode cX11_plan 11 = .ok (.iconst 1, 1) := by decide +kernel
theorem dX11_plan_12 : decode cX11_plan 12 = .ok (.iconst 4, 1) := by decide +kernel
theorem dX11_plan_13 : decode cX11_plan 13 = .ok (.invokestatic 68, 3) := by decide +kernel
theorem dX11_plan_16 : decode cX11_plan 16 = .ok (.ifCond .eq 28, 3) := by decide +kernel
theorem dX11_plan_19 : decode cX11_plan 19 = .ok (.iload_n 1, 1) := by decide +kernel
theorem dX11_plan_20 : decode cX11_plan 20 = .ok (.aload_n 0, 1) := by decide +kernel
theorem dX11_plan_21 : decode cX11_plan 21 = .ok (.getfield 48, 3) := by decide +kernel
theorem dX11_plan_24 : decode cX11_plan 24 = .ok (.getfield 168, 3) := by decide +kernel
theorem dX11_plan_27 : decode cX11_plan 27 = .ok (.getfield 172, 3) := by decide +kernel
theorem dX11_plan_30 : decode cX11_plan 30 = .ok (.if_icmp .gt 14, 3) := by decide +kernel
theorem dX11_plan_33 : decode cX11_plan 33 = .ok (.iload_n 2, 1) := by decide +kernel
theorem dX11_plan_34 : decode cX11_plan 34 = .ok (.iconst (-1), 1) := by decide +kernel
theorem dX11_plan_35 : decode cX11_plan 35 = .ok (.iload_n 1, 1) := by decide +kernel
theorem dX11_plan_36 : decode cX11_plan 36 = .ok (.iconst 1, 1) := by decide +kernel
theorem dX11_plan_37 : decode cX11_plan 37 = .ok (.isub, 1) := by decide +kernel
theorem dX11_plan_38 : decode cX11_plan 38 = .ok (.invokestatic 68, 3) := by decide +kernel
theorem dX11_plan_41 : decode cX11_plan 41 = .ok (.ifCond .ne 6, 3) := by decide +kernel
theorem dX11_plan_44 : decode cX11_plan 44 = .ok (.ldc 72, 2) := by decide +kernel
theorem dX11_plan_46 : decode cX11_plan 46 = .ok (.ireturn, 1) := by decide +kernel
theorem dX11_plan_47 : decode cX11_plan 47 = .ok (.aload_n 0, 1) := by decide +kernel
theorem dX11_plan_48 : decode cX11_plan 48 = .ok (.iload_n 1, 1) := by decide +kernel
theorem dX11_plan_49 : decode cX11_plan 49 = .ok (.invokevirtual 236, 3) := by decide +kernel
theorem dX11_plan_52 : decode cX11_plan 52 = .ok (.aload_n 0, 1) := by decide +kernel
theorem dX11_plan_53 : decode cX11_plan 53 = .ok (.getfield 240, 3) := by decide +kernel
theorem dX11_plan_56 : decode cX11_plan 56 = .ok (.bipush 49, 2) := by decide +kernel
theorem dX11_plan_58 : decode cX11_plan 58 = .ok (.if_icmp .ne 6, 3) := by decide +kernel
theorem dX11_plan_61 : decode cX11_plan 61 = .ok (.ldc 201, 2) := by decide +kernel
theorem dX11_plan_63 : decode cX11_plan 63 = .ok (.ireturn, 1) := by decide +kernel
theorem dX11_plan_64 : decode cX11_plan 64 = .ok (.iload_n 2, 1) := by decide +kernel
theorem dX11_plan_65 : decode cX11_plan 65 = .ok (.ifCond .ge 10, 3) := by decide +kernel
theorem dX11_plan_68 : decode cX11_plan 68 = .ok (.aload_n 0, 1) := by decide +kernel
theorem dX11_plan_69 : decode cX11_plan 69 = .ok (.getfield 240, 3) := by decide +kernel
theorem dX11_plan_72 : decode cX11_plan 72 = .ok (.goto 9, 3) := by decide +kernel
theorem dX11_plan_75 : decode cX11_plan 75 = .ok (.aload_n 0, 1) := by decide +kernel
theorem dX11_plan_76 : decode cX11_plan 76 = .ok (.getfield 34, 3) := by decide +kernel
theorem dX11_plan_79 : decode cX11_plan 79 = .ok (.iload_n 2, 1) := by decide +kernel
theorem dX11_plan_80 : decode cX11_plan 80 = .ok (.iaload, 1) := by decide +kernel
theorem dX11_plan_81 : decode cX11_plan 81 = .ok (.ireturn, 1) := by decide +kernel
theorem dX11_whose_0 : decode cX11_whose 0 = .ok (.aload_n 0, 1) := by decide +kernel
theorem dX11_whose_1 : decode cX11_whose 1 = .ok (.invokevirtual 158, 3) := by decide +kernel
theorem dX11_whose_4 : decode cX11_whose 4 = .ok (.ifCond .eq 6, 3) := by decide +kernel
theorem dX11_whose_7 : decode cX11_whose 7 = .ok (.ldc 154, 2) := by decide +kernel
theorem dX11_whose_9 : decode cX11_whose 9 = .ok (.ireturn, 1) := by decide +kernel
theorem dX11_whose_10 : decode cX11_whose 10 = .ok (.iload_n 1, 1) := by decide +kernel
theorem dX11_whose_11 : decode cX11_whose 11 = .ok (.iconst 0, 1) := by decide +kernel
theorem dX11_whose_12 : decode cX11_whose 12 = .ok (.bipush 9, 2) := by decide +kernel
theorem dX11_whose_14 : decode cX11_whose 14 = .ok (.invokestatic 68, 3) := by decide +kernel
theorem dX11_whose_17 : decode cX11_whose 17 = .ok (.ifCond .eq 12, 3) := by decide +kernel
theorem dX11_whose_20 : decode cX11_whose 20 = .ok (.iload_n 2, 1) := by decide +kernel
theorem dX11_whose_21 : decode cX11_whose 21 = .ok (.iconst 0, 1) := by decide +kernel
theorem dX11_whose_22 : decode cX11_whose 22 = .ok (.iconst 3, 1) := by decide +kernel
theorem dX11_whose_23 : decode cX11_whose 23 = .ok (.invokestatic 68, 3) := by decide +kernel
theorem dX11_whose_26 : decode cX11_whose 26 = .ok (.ifCond .ne 6, 3) := by decide +kernel
theorem dX11_whose_29 : decode cX11_whose 29 = .ok (.ldc 72, 2) := by decide +kernel
theorem dX11_whose_31 : decode cX11_whose 31 = .ok (.ireturn, 1) := by decide +kernel
theorem dX11_whose_32 : decode cX11_whose 32 = .ok (.iconst 0, 1) := by decide +kernel
theorem dX11_whose_33 : decode cX11_whose 33 = .ok (.istore_n 3, 1) := by decide +kernel
theorem dX11_whose_34 : decode cX11_whose 34 = .ok (.iconst 0, 1) := by decide +kernel
theorem dX11_whose_35 : decode cX11_whose 35 = .ok (.istore 4, 2) := by decide +kernel
theorem dX11_whose_37 : decode cX11_whose 37 = .ok (.iload 4, 2) := by decide +kernel
theorem dX11_whose_39 : decode cX11_whose 39 = .ok (.aload_n 0, 1) := by decide +kernel
theorem dX11_whose_40 : decode cX11_whose 40 = .ok (.getfield 48, 3) := by decide +kernel
theorem dX11_whose_43 : decode cX11_whose 43 = .ok (.getfield 168, 3) := by decide +kernel
theorem dX11_whose_46 : decode cX11_whose 46 = .ok (.getfield 172, 3) := by decide +kernel
theorem dX11_whose_49 : decode cX11_whose 49 = .ok (.if_icmp .ge 44, 3) := by decide +kernel
theorem dX11_whose_52 : decode cX11_whose 52 = .ok (.aload_n 0, 1) := by decide +kernel
theorem dX11_whose_53 : decode cX11_whose 53 = .ok (.getfield 48, 3) := by decide +kernel
theorem dX11_whose_56 : decode cX11_whose 56 = .ok (.getfield 168, 3) := by decide +kernel
theorem dX11_whose_59 : decode cX11_whose 59 = .ok (.getfield 209, 3) := by decide +kernel
theorem dX11_whose_62 : decode cX11_whose 62 = .ok (.iload 4, 2) := by decide +kernel
theorem dX11_whose_64 : decode cX11_whose 64 = .ok (.iaload, 1) := by decide +kernel
theorem dX11_whose_65 : decode cX11_whose 65 = .ok (.iconst 3, 1) := by decide +kernel
theorem dX11_whose_66 : decode cX11_whose 66 = .ok (.if_icmp .gt 21, 3) := by decide +kernel
theorem dX11_whose_69 : decode cX11_whose 69 = .ok (.aload_n 0, 1) := by decide +kernel
theorem dX11_whose_70 : decode cX11_whose 70 = .ok (.iload 4, 2) := by decide +kernel
theorem dX11_whose_72 : decode cX11_whose 72 = .ok (.iload_n 1, 1) := by decide +kernel
theorem dX11_whose_73 : decode cX11_whose 73 = .ok (.iload_n 2, 1) := by decide +kernel
theorem dX11_whose_74 : decode cX11_whose 74 = .ok (.invokevirtual 243, 3) := by decide +kernel
theorem dX11_whose_77 : decode cX11_whose 77 = .ok (.ifCond .eq 10, 3) := by decide +kernel
theorem dX11_whose_80 : decode cX11_whose 80 = .ok (.iload_n 3, 1) := by decide +kernel
theorem dX11_whose_81 : decode cX11_whose 81 = .ok (.iconst 1, 1) := by decide +kernel
theorem dX11_whose_82 : decode cX11_whose 82 = .ok (.iload 4, 2) := by decide +kernel
theorem dX11_whose_84 : decode cX11_whose 84 = .ok (.ishl, 1) := by decide +kernel
theorem dX11_whose_85 : decode cX11_whose 85 = .ok (.ior, 1) := by decide +kernel
theorem dX11_whose_86 : decode cX11_whose 86 = .ok (.istore_n 3, 1) := by decide +kernel
theorem dX11_whose_87 : decode cX11_whose 87 = .ok (.iinc 4 1, 3) := by decide +kernel
theorem dX11_whose_90 : decode cX11_whose 90 = .ok (.goto (-53), 3) := by decide +kernel
theorem dX11_whose_93 : decode cX11_whose 93 = .ok (.iload_n 3, 1) := by decide +kernel
theorem dX11_whose_94 : decode cX11_whose 94 = .ok (.ireturn, 1) := by decide +kernel
theorem dX11_sun_0 : decode cX11_sun 0 = .ok (.aload_n 0, 1) := by decide +kernel
theorem dX11_sun_1 : decode cX11_sun 1 = .ok (.iload_n 1, 1) := by decide +kernel
theorem dX11_sun_2 : decode cX11_sun 2 = .ok (.invokevirtual 137, 3) := by decide +kernel
theorem dX11_sun_5 : decode cX11_sun 5 = .ok (.ifCond .eq 13, 3) := by decide +kernel
theorem dX11_sun_8 : decode cX11_sun 8 = .ok (.iload_n 2, 1) := by decide +kernel
theorem dX11_sun_9 : decode cX11_sun 9 = .ok (.iconst 0, 1) := by decide +kernel
theorem dX11_sun_10 : decode cX11_sun 10 = .ok (.bipush 9, 2) := by decide +kernel
theorem dX11_sun_12 : decode cX11_sun 12 = .ok (.invokestatic 68, 3) := by decide +kernel
theorem dX11_sun_15 : decode cX11_sun 15 = .ok (.ifCond .ne 6, 3) := by decide +kernel
theorem dX11_sun_18 : decode cX11_sun 18 = .ok (.ldc 72, 2) := by decide +kernel
theorem dX11_sun_20 : decode cX11_sun 20 = .ok (.ireturn, 1) := by decide +kernel
theorem dX11_sun_21 : decode cX11_sun 21 = .ok (.aload_n 0, 1) := by decide +kernel
theorem dX11_sun_22 : decode cX11_sun 22 = .ok (.getfield 48, 3) := by decide +kernel
theorem dX11_sun_25 : decode cX11_sun 25 = .ok (.getfield 168, 3) := by decide +kernel
theorem dX11_sun_28 : decode cX11_sun 28 = .ok (.iload_n 1, 1) := by decide +kernel
theorem dX11_sun_29 : decode cX11_sun 29 = .ok (.iconst 0, 1) := by decide +kernel
theorem dX11_sun_30 : decode cX11_sun 30 = .ok (.bipush 23, 2) := by decide +kernel
theorem dX11_sun_32 : decode cX11_sun 32 = .ok (.iload_n 2, 1) := by decide +kernel
theorem dX11_sun_33 : decode cX11_sun 33 = .ok (.invokevirtual 246, 3) := by decide +kernel
theorem dX11_sun_36 : decode cX11_sun 36 = .ok (.ireturn, 1) := by decide +kernel
theorem dX11_rings_0 : decode cX11_rings 0 = .ok (.aload_n 0, 1) := by decide +kernel
theorem dX11_rings_1 : decode cX11_rings 1 = .ok (.invokevirtual 158, 3) := by decide +kernel
theorem dX11_rings_4 : decode cX11_rings 4 = .ok (.ifCond .eq 6, 3) := by decide +kernel
theorem dX11_rings_7 : decode cX11_rings 7 = .ok (.ldc 154, 2) := by decide +kernel
theorem dX11_rings_9 : decode cX11_rings 9 = .ok (.ireturn, 1) := by decide +kernel
theorem dX11_rings_10 : decode cX11_rings 10 = .ok (.aload_n 0, 1) := by decide +kernel
theorem dX11_rings_11 : decode cX11_rings 11 = .ok (.getfield 10, 3) := by decide +kernel
theorem dX11_rings_14 : decode cX11_rings 14 = .ok (.iload_n 1, 1) := by decide +kernel
theorem dX11_rings_15 : decode cX11_rings 15 = .ok (.invokevirtual 64, 3) := by decide +kernel
theorem dX11_rings_18 : decode cX11_rings 18 = .ok (.ifCond .eq 24, 3) := by decide +kernel
theorem dX11_rings_21 : decode cX11_rings 21 = .ok (.iload_n 2, 1) := by decide +kernel
theorem dX11_rings_22 : decode cX11_rings 22 = .ok (.iconst 2, 1) := by decide +kernel
theorem dX11_rings_23 : decode cX11_rings 23 = .ok (.bipush 6, 2) := by decide +kernel
theorem dX11_rings_25 : decode cX11_rings 25 = .ok (.invokestatic 68, 3) := by decide +kernel
theorem dX11_rings_28 : decode cX11_rings 28 = .ok (.ifCond .eq 14, 3) := by decide +kernel
theorem dX11_rings_31 : decode cX11_rings 31 = .ok (.iload_n 3, 1) := by decide +kernel
theorem dX11_rings_32 : decode cX11_rings 32 = .ok (.iconst 0, 1) := by decide +kernel
theorem dX11_rings_33 : decode cX11_rings 33 = .ok (.iload_n 2, 1) := by decide +kernel
theorem dX11_rings_34 : decode cX11_rings 34 = .ok (.iconst 1, 1) := by decide +kernel
theorem dX11_rings_35 : decode cX11_rings 35 = .ok (.isub, 1) := by decide +kernel
theorem dX11_rings_36 : decode cX11_rings 36 = .ok (.invokestatic 68, 3) := by decide +kernel
theorem dX11_rings_39 : decode cX11_rings 39 = .ok (.ifCond .ne 6, 3) := by decide +kernel
theorem dX11_rings_42 : decode cX11_rings 42 = .ok (.ldc 72, 2) := by decide +kernel
theorem dX11_rings_44 : decode cX11_rings 44 = .ok (.ireturn, 1) := by decide +kernel
theorem dX11_rings_45 : decode cX11_rings 45 = .ok (.aload_n 0, 1) := by decide +kernel
theorem dX11_rings_46 : decode cX11_rings 46 = .ok (.getfield 10, 3) := by decide +kernel
theorem dX11_rings_49 : decode cX11_rings 49 = .ok (.iload_n 1, 1) := by decide +kernel
theorem dX11_rings_50 : decode cX11_rings 50 = .ok (.invokevirtual 84, 3) := by decide +kernel
theorem dX11_rings_53 : decode cX11_rings 53 = .ok (.ifCond .eq 9, 3) := by decide +kernel
theorem dX11_rings_56 : decode cX11_rings 56 = .ok (.aload_n 0, 1) := by decide +kernel
theorem dX11_rings_57 : decode cX11_rings 57 = .ok (.iconst 1, 1) := by decide +kernel
theorem dX11_rings_58 : decode cX11_rings 58 = .ok (.invokevirtual 73, 3) := by decide +kernel
theorem dX11_rings_61 : decode cX11_rings 61 = .ok (.ireturn, 1) := by decide +kernel
theorem dX11_rings_62 : decode cX11_rings 62 = .ok (.aload_n 0, 1) := by decide +kernel
theorem dX11_rings_63 : decode cX11_rings 63 = .ok (.getfield 10, 3) := by decide +kernel
theorem dX11_rings_66 : decode cX11_rings 66 = .ok (.iload_n 1, 1) := by decide +kernel
theorem dX11_rings_67 : decode cX11_rings 67 = .ok (.iconst 0, 1) := by decide +kernel
theorem dX11_rings_68 : decode cX11_rings 68 = .ok (.iload_n 2, 1) := by decide +kernel
theorem dX11_rings_69 : decode cX11_rings 69 = .ok (.invokevirtual 87, 3) := by decide +kernel
theorem dX11_rings_72 : decode cX11_rings 72 = .ok (.ifCond .ne 9, 3) := by decide +kernel
theorem dX11_rings_75 : decode cX11_rings 75 = .ok (.aload_n 0, 1) := by decide +kernel
theorem dX11_rings_76 : decode cX11_rings 76 = .ok (.iconst 2, 1) := by decide +kernel
theorem dX11_rings_77 : decode cX11_rings 77 = .ok (.invokevirtual 73, 3) := by decide +kernel
theorem dX11_rings_80 : decode cX11_rings 80 = .ok (.ireturn, 1) := by decide +kernel
theorem dX11_rings_81 : decode cX11_rings 81 = .ok (.aload_n 0, 1) := by decide +kernel
theorem dX11_rings_82 : decode cX11_rings 82 = .ok (.getfield 10, 3) := by decide +kernel
theorem dX11_rings_85 : decode cX11_rings 85 = .ok (.iload_n 1, 1) := by decide +kernel
theorem dX11_rings_86 : decode cX11_rings 86 = .ok (.iconst 0, 1) := by decide +kernel
theorem dX11_rings_87 : decode cX11_rings 87 = .ok (.iload_n 2, 1) := by decide +kernel
theorem dX11_rings_88 : decode cX11_rings 88 = .ok (.iconst 0, 1) := by decide +kernel
theorem dX11_rings_89 : decode cX11_rings 89 = .ok (.aload_n 0, 1) := by decide +kernel
theorem dX11_rings_90 : decode cX11_rings 90 = .ok (.getfield 48, 3) := by decide +kernel
theorem dX11_rings_93 : decode cX11_rings 93 = .ok (.getfield 168, 3) := by decide +kernel
theorem dX11_rings_96 : decode cX11_rings 96 = .ok (.getfield 131, 3) := by decide +kernel
theorem dX11_rings_99 : decode cX11_rings 99 = .ok (.iconst 1, 1) := by decide +kernel
theorem dX11_rings_100 : decode cX11_rings 100 = .ok (.isub, 1) := by decide +kernel
theorem dX11_rings_101 : decode cX11_rings 101 = .ok (.invokevirtual 175, 3) := by decide +kernel
theorem dX11_rings_104 : decode cX11_rings 104 = .ok (.ifCond .eq 15, 3) := by decide +kernel
theorem dX11_rings_107 : decode cX11_rings 107 = .ok (.aload_n 0, 1) := by decide +kernel
theorem dX11_rings_108 : decode cX11_rings 108 = .ok (.getfield 10, 3) := by decide +kernel
theorem dX11_rings_111 : decode cX11_rings 111 = .ok (.iload_n 1, 1) := by decide +kernel
theorem dX11_rings_112 : decode cX11_rings 112 = .ok (.iload_n 2, 1) := by decide +kernel
theorem dX11_rings_113 : decode cX11_rings 113 = .ok (.invokevirtual 250, 3) := by decide +kernel
theorem dX11_rings_116 : decode cX11_rings 116 = .ok (.ifCond .ne 6, 3) := by decide +kernel
theorem dX11_rings_119 : decode cX11_rings 119 = .ok (.ldc 72, 2) := by decide +kernel
theorem dX11_rings_121 : decode cX11_rings 121 = .ok (.ireturn, 1) := by decide +kernel
theorem dX11_rings_122 : decode cX11_rings 122 = .ok (.aload_n 0, 1) := by decide +kernel
theorem dX11_rings_123 : decode cX11_rings 123 = .ok (.aload_n 0, 1) := by decide +kernel
theorem dX11_rings_124 : decode cX11_rings 124 = .ok (.getfield 10, 3) := by decide +kernel
theorem dX11_rings_127 : decode cX11_rings 127 = .ok (.iload_n 1, 1) := by decide +kernel
theorem dX11_rings_128 : decode cX11_rings 128 = .ok (.iload_n 2, 1) := by decide +kernel
theorem dX11_rings_129 : decode cX11_rings 129 = .ok (.invokevirtual 253, 3) := by decide +kernel
theorem dX11_rings_132 : decode cX11_rings 132 = .ok (.invokevirtual 257, 3) := by decide +kernel
theorem dX11_rings_135 : decode cX11_rings 135 = .ok (.astore 4, 2) := by decide +kernel
theorem dX11_rings_137 : decode cX11_rings 137 = .ok (.aload_n 0, 1) := by decide +kernel
theorem dX11_rings_138 : decode cX11_rings 138 = .ok (.aload 4, 2) := by decide +kernel
theorem dX11_rings_140 : decode cX11_rings 140 = .ok (.iload_n 3, 1) := by decide +kernel
theorem dX11_rings_141 : decode cX11_rings 141 = .ok (.iaload, 1) := by decide +kernel
theorem dX11_rings_142 : decode cX11_rings 142 = .ok (.invokevirtual 81, 3) := by decide +kernel
theorem dX11_rings_145 : decode cX11_rings 145 = .ok (.ireturn, 1) := by decide +kernel
theorem dX11_rain_0 : decode cX11_rain 0 = .ok (.aload_n 0, 1) := by decide +kernel
theorem dX11_rain_1 : decode cX11_rain 1 = .ok (.invokevirtual 158, 3) := by decide +kernel
theorem dX11_rain_4 : decode cX11_rain 4 = .ok (.ifCond .eq 6, 3) := by decide +kernel
theorem dX11_rain_7 : decode cX11_rain 7 = .ok (.ldc 154, 2) := by decide +kernel
theorem dX11_rain_9 : decode cX11_rain 9 = .ok (.ireturn, 1) := by decide +kernel
theorem dX11_rain_10 : decode cX11_rain 10 = .ok (.iload_n 1, 1) := by decide +kernel
theorem dX11_rain_11 : decode cX11_rain 11 = .ok (.iconst 0, 1) := by decide +kernel
theorem dX11_rain_12 : decode cX11_rain 12 = .ok (.bipush 100, 2) := by decide +kernel
theorem dX11_rain_14 : decode cX11_rain 14 = .ok (.invokestatic 68, 3) := by decide +kernel
theorem dX11_rain_17 : decode cX11_rain 17 = .ok (.ifCond .eq 12, 3) := by decide +kernel
theorem dX11_rain_20 : decode cX11_rain 20 = .ok (.iload_n 2, 1) := by decide +kernel
theorem dX11_rain_21 : decode cX11_rain 21 = .ok (.iconst 0, 1) := by decide +kernel
theorem dX11_rain_22 : decode cX11_rain 22 = .ok (.iconst 1, 1) := by decide +kernel
theorem dX11_rain_23 : decode cX11_rain 23 = .ok (.invokestatic 68, 3) := by decide +kernel
theorem dX11_rain_26 : decode cX11_rain 26 = .ok (.ifCond .ne 6, 3) := by decide +kernel
theorem dX11_rain_29 : decode cX11_rain 29 = .ok (.ldc 72, 2) := by decide +kernel
theorem dX11_rain_31 : decode cX11_rain 31 = .ok (.ireturn, 1) := by decide +kernel
theorem dX11_rain_32 : decode cX11_rain 32 = .ok (.iload_n 2, 1) := by decide +kernel
theorem dX11_rain_33 : decode cX11_rain 33 = .ok (.ifCond .ne 9, 3) := by decide +kernel
theorem dX11_rain_36 : decode cX11_rain 36 = .ok (.aload_n 0, 1) := by decide +kernel
theorem dX11_rain_37 : decode cX11_rain 37 = .ok (.iload_n 1, 1) := by decide +kernel
theorem dX11_rain_38 : decode cX11_rain 38 = .ok (.invokevirtual 261, 3) := by decide +kernel
theorem dX11_rain_41 : decode cX11_rain 41 = .ok (.ireturn, 1) := by decide +kernel
theorem dX11_rain_42 : decode cX11_rain 42 = .ok (.aload_n 0, 1) := by decide +kernel
theorem dX11_rain_43 : decode cX11_rain 43 = .ok (.aload_n 0, 1) := by decide +kernel
theorem dX11_rain_44 : decode cX11_rain 44 = .ok (.getfield 48, 3) := by decide +kernel
theorem dX11_rain_47 : decode cX11_rain 47 = .ok (.invokevirtual 186, 3) := by decide +kernel
theorem dX11_rain_50 : decode cX11_rain 50 = .ok (.invokevirtual 264, 3) := by decide +kernel
theorem dX11_rain_53 : decode cX11_rain 53 = .ok (.istore_n 3, 1) := by decide +kernel
theorem dX11_rain_54 : decode cX11_rain 54 = .ok (.iload_n 3, 1) := by decide +kernel
theorem dX11_rain_55 : decode cX11_rain 55 = .ok (.ifCond .ge 8, 3) := by decide +kernel
theorem dX11_rain_58 : decode cX11_rain 58 = .ok (.ldc 201, 2) := by decide +kernel
theorem dX11_rain_60 : decode cX11_rain 60 = .ok (.goto 4, 3) := by decide +kernel
theorem dX11_rain_63 : decode cX11_rain 63 = .ok (.iload_n 3, 1) := by decide +kernel
theorem dX11_rain_64 : decode cX11_rain 64 = .ok (.ireturn, 1) := by decide +kernel
theorem dX11_image_0 : decode cX11_image 0 = .ok (.iload_n 1, 1) := by decide +kernel
theorem dX11_image_1 : decode cX11_image 1 = .ok (.iconst 0, 1) := by decide +kernel
theorem dX11_image_2 : decode cX11_image 2 = .ok (.iconst 1, 1) := by decide +kernel
theorem dX11_image_3 : decode cX11_image 3 = .ok (.invokestatic 68, 3) := by decide +kernel
theorem dX11_image_6 : decode cX11_image 6 = .ok (.ifCond .ne 6, 3) := by decide +kernel
theorem dX11_image_9 : decode cX11_image 9 = .ok (.ldc 72, 2) := by decide +kernel
theorem dX11_image_11 : decode cX11_image 11 = .ok (.ireturn, 1) := by decide +kernel
theorem dX11_image_12 : decode cX11_image 12 = .ok (.aload_n 0, 1) := by decide +kernel
theorem dX11_image_13 : decode cX11_image 13 = .ok (.invokevirtual 158, 3) := by decide +kernel
theorem dX11_image_16 : decode cX11_image 16 = .ok (.ifCond .eq 6, 3) := by decide +kernel
theorem dX11_image_19 : decode cX11_image 19 = .ok (.ldc 154, 2) := by decide +kernel
theorem dX11_image_21 : decode cX11_image 21 = .ok (.ireturn, 1) := by decide +kernel
theorem dX11_image_22 : decode cX11_image 22 = .ok (.aload_n 0, 1) := by decide +kernel
theorem dX11_image_23 : decode cX11_image 23 = .ok (.iload_n 1, 1) := by decide +kernel
theorem dX11_image_24 : decode cX11_image 24 = .ok (.invokevirtual 267, 3) := by decide +kernel
theorem dX11_image_27 : decode cX11_image 27 = .ok (.aload_n 0, 1) := by decide +kernel
theorem dX11_image_28 : decode cX11_image 28 = .ok (.getfield 48, 3) := by decide +kernel
theorem dX11_image_31 : decode cX11_image 31 = .ok (.invokevirtual 182, 3) := by decide +kernel
theorem dX11_image_34 : decode cX11_image 34 = .ok (.iconst 1, 1) := by decide +kernel
theorem dX11_image_35 : decode cX11_image 35 = .ok (.ireturn, 1) := by decide +kernel
theorem dX11_restore_0 : decode cX11_restore 0 = .ok (.iload_n 1, 1) := by decide +kernel
theorem dX11_restore_1 : decode cX11_restore 1 = .ok (.iconst 0, 1) := by decide +kernel
theorem dX11_restore_2 : decode cX11_restore 2 = .ok (.iconst 1, 1) := by decide +kernel
theorem dX11_restore_3 : decode cX11_restore 3 = .ok (.invokestatic 68, 3) := by decide +kernel
theorem dX11_restore_6 : decode cX11_restore 6 = .ok (.ifCond .ne 6, 3) := by decide +kernel
theorem dX11_restore_9 : decode cX11_restore 9 = .ok (.ldc 72, 2) := by decide +kernel
theorem dX11_restore_11 : decode cX11_restore 11 = .ok (.ireturn, 1) := by decide +kernel
theorem dX11_restore_12 : decode cX11_restore 12 = .ok (.aload_n 0, 1) := by decide +kernel
end
section
theorem dX11_restore_13 : decode cX11_restore 13 = .ok (.iload_n 1, 1) := by decide +kernel
theorem dX11_restore_14 : decode cX11_restore 14 = .ok (.invokevirtual 267, 3) := by decide +kernel
theorem dX11_restore_17 : decode cX11_restore 17 = .ok (.getfield 168, 3) := by decide +kernel
theorem dX11_restore_20 : decode cX11_restore 20 = .ok (.invokevirtual 271, 3) := by decide +kernel
theorem dX11_restore_23 : decode cX11_restore 23 = .ok (.ifCond .ne 6, 3) := by decide +kernel
theorem dX11_restore_26 : decode cX11_restore 26 = .ok (.ldc 154, 2) := by decide +kernel
theorem dX11_restore_28 : decode cX11_restore 28 = .ok (.ireturn, 1) := by decide +kernel
theorem dX11_restore_29 : decode cX11_restore 29 = .ok (.aload_n 0, 1) := by decide +kernel
theorem dX11_restore_30 : decode cX11_restore 30 = .ok (.getfield 48, 3) := by decide +kernel
theorem dX11_restore_33 : decode cX11_restore 33 = .ok (.aload_n 0, 1) := by decide +kernel
theorem dX11_restore_34 : decode cX11_restore 34 = .ok (.iload_n 1, 1) := by decide +kernel
theorem dX11_restore_35 : decode cX11_restore 35 = .ok (.invokevirtual 267, 3) := by decide +kernel
theorem dX11_restore_38 : decode cX11_restore 38 = .ok (.invokevirtual 182, 3) := by decide +kernel
theorem dX11_restore_41 : decode cX11_restore 41 = .ok (.iconst 1, 1) := by decide +kernel
theorem dX11_restore_42 : decode cX11_restore 42 = .ok (.ireturn, 1) := by decide +kernel
theorem dX11_kind_0 : decode cX11_kind 0 = .ok (.aload_n 0, 1) := by decide +kernel
theorem dX11_kind_1 : decode cX11_kind 1 = .ok (.iload_n 1, 1) := by decide +kernel
theorem dX11_kind_2 : decode cX11_kind 2 = .ok (.invokevirtual 134, 3) := by decide +kernel
theorem dX11_kind_5 : decode cX11_kind 5 = .ok (.ifCond .eq 18, 3) := by decide +kernel
theorem dX11_kind_8 : decode cX11_kind 8 = .ok (.aload_n 0, 1) := by decide +kernel
theorem dX11_kind_9 : decode cX11_kind 9 = .ok (.getfield 48, 3) := by decide +kernel
theorem dX11_kind_12 : decode cX11_kind 12 = .ok (.getfield 168, 3) := by decide +kernel
theorem dX11_kind_15 : decode cX11_kind 15 = .ok (.getfield 274, 3) := by decide +kernel
theorem dX11_kind_18 : decode cX11_kind 18 = .ok (.iload_n 1, 1) := by decide +kernel
theorem dX11_kind_19 : decode cX11_kind 19 = .ok (.iaload, 1) := by decide +kernel
theorem dX11_kind_20 : decode cX11_kind 20 = .ok (.goto 5, 3) := by decide +kernel
theorem dX11_kind_23 : decode cX11_kind 23 = .ok (.ldc 72, 2) := by decide +kernel
theorem dX11_kind_25 : decode cX11_kind 25 = .ok (.ireturn, 1) := by decide +kernel
theorem dX11_as_0 : decode cX11_as 0 = .ok (.aload_n 0, 1) := by decide +kernel
theorem dX11_as_1 : decode cX11_as 1 = .ok (.iload_n 1, 1) := by decide +kernel
theorem dX11_as_2 : decode cX11_as 2 = .ok (.invokevirtual 134, 3) := by decide +kernel
theorem dX11_as_5 : decode cX11_as 5 = .ok (.ifCond .eq 12, 3) := by decide +kernel
theorem dX11_as_8 : decode cX11_as 8 = .ok (.iload_n 2, 1) := by decide +kernel
theorem dX11_as_9 : decode cX11_as 9 = .ok (.iconst 0, 1) := by decide +kernel
theorem dX11_as_10 : decode cX11_as 10 = .ok (.iconst 5, 1) := by decide +kernel
theorem dX11_as_11 : decode cX11_as 11 = .ok (.invokestatic 68, 3) := by decide +kernel
theorem dX11_as_14 : decode cX11_as 14 = .ok (.ifCond .ne 6, 3) := by decide +kernel
theorem dX11_as_17 : decode cX11_as 17 = .ok (.ldc 72, 2) := by decide +kernel
theorem dX11_as_19 : decode cX11_as 19 = .ok (.ireturn, 1) := by decide +kernel
theorem dX11_as_20 : decode cX11_as 20 = .ok (.aload_n 0, 1) := by decide +kernel
theorem dX11_as_21 : decode cX11_as 21 = .ok (.iload_n 1, 1) := by decide +kernel
theorem dX11_as_22 : decode cX11_as 22 = .ok (.invokevirtual 277, 3) := by decide +kernel
theorem dX11_as_25 : decode cX11_as 25 = .ok (.iload_n 2, 1) := by decide +kernel
theorem dX11_as_26 : decode cX11_as 26 = .ok (.invokestatic 281, 3) := by decide +kernel
theorem dX11_as_29 : decode cX11_as 29 = .ok (.ifCond .ne 9, 3) := by decide +kernel
theorem dX11_as_32 : decode cX11_as 32 = .ok (.aload_n 0, 1) := by decide +kernel
theorem dX11_as_33 : decode cX11_as 33 = .ok (.iconst 3, 1) := by decide +kernel
theorem dX11_as_34 : decode cX11_as 34 = .ok (.invokevirtual 73, 3) := by decide +kernel
theorem dX11_as_37 : decode cX11_as 37 = .ok (.ireturn, 1) := by decide +kernel
theorem dX11_as_38 : decode cX11_as 38 = .ok (.aload_n 0, 1) := by decide +kernel
theorem dX11_as_39 : decode cX11_as 39 = .ok (.iload_n 1, 1) := by decide +kernel
theorem dX11_as_40 : decode cX11_as 40 = .ok (.invokevirtual 81, 3) := by decide +kernel
theorem dX11_as_43 : decode cX11_as 43 = .ok (.ireturn, 1) := by decide +kernel
theorem dX11_ask_0 : decode cX11_ask 0 = .ok (.aload_n 0, 1) := by decide +kernel
theorem dX11_ask_1 : decode cX11_ask 1 = .ok (.iload_n 1, 1) := by decide +kernel
theorem dX11_ask_2 : decode cX11_ask 2 = .ok (.invokevirtual 134, 3) := by decide +kernel
theorem dX11_ask_5 : decode cX11_ask 5 = .ok (.ifCond .eq 12, 3) := by decide +kernel
theorem dX11_ask_8 : decode cX11_ask 8 = .ok (.iload_n 2, 1) := by decide +kernel
theorem dX11_ask_9 : decode cX11_ask 9 = .ok (.iconst 0, 1) := by decide +kernel
theorem dX11_ask_10 : decode cX11_ask 10 = .ok (.iconst 1, 1) := by decide +kernel
theorem dX11_ask_11 : decode cX11_ask 11 = .ok (.invokestatic 68, 3) := by decide +kernel
theorem dX11_ask_14 : decode cX11_ask 14 = .ok (.ifCond .ne 6, 3) := by decide +kernel
theorem dX11_ask_17 : decode cX11_ask 17 = .ok (.ldc 72, 2) := by decide +kernel
theorem dX11_ask_19 : decode cX11_ask 19 = .ok (.ireturn, 1) := by decide +kernel
theorem dX11_ask_20 : decode cX11_ask 20 = .ok (.aload_n 0, 1) := by decide +kernel
theorem dX11_ask_21 : decode cX11_ask 21 = .ok (.getfield 26, 3) := by decide +kernel
theorem dX11_ask_24 : decode cX11_ask 24 = .ok (.invokevirtual 285, 3) := by decide +kernel
theorem dX11_ask_27 : decode cX11_ask 27 = .ok (.aload_n 0, 1) := by decide +kernel
theorem dX11_ask_28 : decode cX11_ask 28 = .ok (.iload_n 1, 1) := by decide +kernel
theorem dX11_ask_29 : decode cX11_ask 29 = .ok (.invokevirtual 277, 3) := by decide +kernel
theorem dX11_ask_32 : decode cX11_ask 32 = .ok (.astore_n 3, 1) := by decide +kernel
theorem dX11_ask_33 : decode cX11_ask 33 = .ok (.iload_n 2, 1) := by decide +kernel
theorem dX11_ask_34 : decode cX11_ask 34 = .ok (.ifCond .ne 10, 3) := by decide +kernel
theorem dX11_ask_37 : decode cX11_ask 37 = .ok (.aload_n 3, 1) := by decide +kernel
theorem dX11_ask_38 : decode cX11_ask 38 = .ok (.invokevirtual 288, 3) := by decide +kernel
theorem dX11_ask_41 : decode cX11_ask 41 = .ok (.goto 7, 3) := by decide +kernel
theorem dX11_ask_44 : decode cX11_ask 44 = .ok (.aload_n 3, 1) := by decide +kernel
theorem dX11_ask_45 : decode cX11_ask 45 = .ok (.invokevirtual 293, 3) := by decide +kernel
theorem dX11_ask_48 : decode cX11_ask 48 = .ok (.ireturn, 1) := by decide +kernel
theorem dX11_trace_0 : decode cX11_trace 0 = .ok (.iload_n 1, 1) := by decide +kernel
theorem dX11_trace_1 : decode cX11_trace 1 = .ok (.iconst 0, 1) := by decide +kernel
theorem dX11_trace_2 : decode cX11_trace 2 = .ok (.aload_n 0, 1) := by decide +kernel
theorem dX11_trace_3 : decode cX11_trace 3 = .ok (.getfield 26, 3) := by decide +kernel
theorem dX11_trace_6 : decode cX11_trace 6 = .ok (.getfield 296, 3) := by decide +kernel
theorem dX11_trace_9 : decode cX11_trace 9 = .ok (.iconst 1, 1) := by decide +kernel
theorem dX11_trace_10 : decode cX11_trace 10 = .ok (.isub, 1) := by decide +kernel
theorem dX11_trace_11 : decode cX11_trace 11 = .ok (.invokestatic 68, 3) := by decide +kernel
theorem dX11_trace_14 : decode cX11_trace 14 = .ok (.ifCond .eq 15, 3) := by decide +kernel
theorem dX11_trace_17 : decode cX11_trace 17 = .ok (.aload_n 0, 1) := by decide +kernel
theorem dX11_trace_18 : decode cX11_trace 18 = .ok (.getfield 26, 3) := by decide +kernel
theorem dX11_trace_21 : decode cX11_trace 21 = .ok (.getfield 299, 3) := by decide +kernel
theorem dX11_trace_24 : decode cX11_trace 24 = .ok (.iload_n 1, 1) := by decide +kernel
theorem dX11_trace_25 : decode cX11_trace 25 = .ok (.iaload, 1) := by decide +kernel
theorem dX11_trace_26 : decode cX11_trace 26 = .ok (.goto 5, 3) := by decide +kernel
theorem dX11_trace_29 : decode cX11_trace 29 = .ok (.ldc 201, 2) := by decide +kernel
theorem dX11_trace_31 : decode cX11_trace 31 = .ok (.ireturn, 1) := by decide +kernel
theorem dX11_count_0 : decode cX11_count 0 = .ok (.iload_n 1, 1) := by decide +kernel
theorem dX11_count_1 : decode cX11_count 1 = .ok (.tableswitch 123 0 7 #[47, 55, 66, 77, 88, 99, 107, 115], 47) := by decide +kernel
theorem dX11_count_48 : decode cX11_count 48 = .ok (.aload_n 0, 1) := by decide +kernel
theorem dX11_count_49 : decode cX11_count 49 = .ok (.getfield 10, 3) := by decide +kernel
theorem dX11_count_52 : decode cX11_count 52 = .ok (.invokevirtual 302, 3) := by decide +kernel
theorem dX11_count_55 : decode cX11_count 55 = .ok (.ireturn, 1) := by decide +kernel
theorem dX11_count_56 : decode cX11_count 56 = .ok (.aload_n 0, 1) := by decide +kernel
theorem dX11_count_57 : decode cX11_count 57 = .ok (.getfield 48, 3) := by decide +kernel
theorem dX11_count_60 : decode cX11_count 60 = .ok (.getfield 168, 3) := by decide +kernel
theorem dX11_count_63 : decode cX11_count 63 = .ok (.getfield 131, 3) := by decide +kernel
theorem dX11_count_66 : decode cX11_count 66 = .ok (.ireturn, 1) := by decide +kernel
theorem dX11_count_67 : decode cX11_count 67 = .ok (.aload_n 0, 1) := by decide +kernel
theorem dX11_count_68 : decode cX11_count 68 = .ok (.getfield 48, 3) := by decide +kernel
theorem dX11_count_71 : decode cX11_count 71 = .ok (.getfield 168, 3) := by decide +kernel
theorem dX11_count_74 : decode cX11_count 74 = .ok (.getfield 305, 3) := by decide +kernel
theorem dX11_count_77 : decode cX11_count 77 = .ok (.ireturn, 1) := by decide +kernel
theorem dX11_count_78 : decode cX11_count 78 = .ok (.aload_n 0, 1) := by decide +kernel
theorem dX11_count_79 : decode cX11_count 79 = .ok (.getfield 48, 3) := by decide +kernel
theorem dX11_count_82 : decode cX11_count 82 = .ok (.getfield 168, 3) := by decide +kernel
theorem dX11_count_85 : decode cX11_count 85 = .ok (.getfield 172, 3) := by decide +kernel
theorem dX11_count_88 : decode cX11_count 88 = .ok (.ireturn, 1) := by decide +kernel
theorem dX11_count_89 : decode cX11_count 89 = .ok (.aload_n 0, 1) := by decide +kernel
theorem dX11_count_90 : decode cX11_count 90 = .ok (.getfield 48, 3) := by decide +kernel
theorem dX11_count_93 : decode cX11_count 93 = .ok (.invokevirtual 186, 3) := by decide +kernel
theorem dX11_count_96 : decode cX11_count 96 = .ok (.invokestatic 190, 3) := by decide +kernel
theorem dX11_count_99 : decode cX11_count 99 = .ok (.ireturn, 1) := by decide +kernel
theorem dX11_count_100 : decode cX11_count 100 = .ok (.aload_n 0, 1) := by decide +kernel
theorem dX11_count_101 : decode cX11_count 101 = .ok (.getfield 48, 3) := by decide +kernel
theorem dX11_count_104 : decode cX11_count 104 = .ok (.invokevirtual 308, 3) := by decide +kernel
theorem dX11_count_107 : decode cX11_count 107 = .ok (.ireturn, 1) := by decide +kernel
theorem dX11_count_108 : decode cX11_count 108 = .ok (.aload_n 0, 1) := by decide +kernel
theorem dX11_count_109 : decode cX11_count 109 = .ok (.getfield 48, 3) := by decide +kernel
theorem dX11_count_112 : decode cX11_count 112 = .ok (.getfield 165, 3) := by decide +kernel
theorem dX11_count_115 : decode cX11_count 115 = .ok (.ireturn, 1) := by decide +kernel
theorem dX11_count_116 : decode cX11_count 116 = .ok (.aload_n 0, 1) := by decide +kernel
theorem dX11_count_117 : decode cX11_count 117 = .ok (.getfield 19, 3) := by decide +kernel
theorem dX11_count_120 : decode cX11_count 120 = .ok (.getfield 311, 3) := by decide +kernel
theorem dX11_count_123 : decode cX11_count 123 = .ok (.ireturn, 1) := by decide +kernel
theorem dX11_count_124 : decode cX11_count 124 = .ok (.ldc 72, 2) := by decide +kernel
theorem dX11_count_126 : decode cX11_count 126 = .ok (.ireturn, 1) := by decide +kernel
theorem dX11_status_0 : decode cX11_status 0 = .ok (.aload_n 0, 1) := by decide +kernel
theorem dX11_status_1 : decode cX11_status 1 = .ok (.getfield 312, 3) := by decide +kernel
theorem dX11_status_4 : decode cX11_status 4 = .ok (.ireturn, 1) := by decide +kernel
theorem dX11_isIn_0 : decode cX11_isIn 0 = .ok (.iload_n 0, 1) := by decide +kernel
theorem dX11_isIn_1 : decode cX11_isIn 1 = .ok (.iload_n 1, 1) := by decide +kernel
theorem dX11_isIn_2 : decode cX11_isIn 2 = .ok (.if_icmp .lt 12, 3) := by decide +kernel
theorem dX11_isIn_5 : decode cX11_isIn 5 = .ok (.iload_n 0, 1) := by decide +kernel
theorem dX11_isIn_6 : decode cX11_isIn 6 = .ok (.iload_n 2, 1) := by decide +kernel
theorem dX11_isIn_7 : decode cX11_isIn 7 = .ok (.if_icmp .gt 7, 3) := by decide +kernel
theorem dX11_isIn_10 : decode cX11_isIn 10 = .ok (.iconst 1, 1) := by decide +kernel
theorem dX11_isIn_11 : decode cX11_isIn 11 = .ok (.goto 4, 3) := by decide +kernel
theorem dX11_isIn_14 : decode cX11_isIn 14 = .ok (.iconst 0, 1) := by decide +kernel
theorem dX11_isIn_15 : decode cX11_isIn 15 = .ok (.ireturn, 1) := by decide +kernel
theorem dX11_found_0 : decode cX11_found 0 = .ok (.aload_n 0, 1) := by decide +kernel
theorem dX11_found_1 : decode cX11_found 1 = .ok (.iload_n 1, 1) := by decide +kernel
theorem dX11_found_2 : decode cX11_found 2 = .ok (.putfield 312, 3) := by decide +kernel
theorem dX11_found_5 : decode cX11_found 5 = .ok (.ldc_w 315, 3) := by decide +kernel
theorem dX11_found_8 : decode cX11_found 8 = .ok (.iload_n 1, 1) := by decide +kernel
theorem dX11_found_9 : decode cX11_found 9 = .ok (.isub, 1) := by decide +kernel
theorem dX11_found_10 : decode cX11_found 10 = .ok (.ireturn, 1) := by decide +kernel
theorem dX11_unfound_0 : decode cX11_unfound 0 = .ok (.aload_n 0, 1) := by decide +kernel
theorem dX11_unfound_1 : decode cX11_unfound 1 = .ok (.iconst 0, 1) := by decide +kernel
theorem dX11_unfound_2 : decode cX11_unfound 2 = .ok (.putfield 312, 3) := by decide +kernel
theorem dX11_unfound_5 : decode cX11_unfound 5 = .ok (.iload_n 1, 1) := by decide +kernel
theorem dX11_unfound_6 : decode cX11_unfound 6 = .ok (.ireturn, 1) := by decide +kernel
theorem dX11_noCourt_0 : decode cX11_noCourt 0 = .ok (.aload_n 0, 1) := by decide +kernel
theorem dX11_noCourt_1 : decode cX11_noCourt 1 = .ok (.getfield 48, 3) := by decide +kernel
theorem dX11_noCourt_4 : decode cX11_noCourt 4 = .ok (.getfield 168, 3) := by decide +kernel
theorem dX11_noCourt_7 : decode cX11_noCourt 7 = .ok (.invokevirtual 271, 3) := by decide +kernel
theorem dX11_noCourt_10 : decode cX11_noCourt 10 = .ok (.ifCond .ne 7, 3) := by decide +kernel
theorem dX11_noCourt_13 : decode cX11_noCourt 13 = .ok (.iconst 1, 1) := by decide +kernel
theorem dX11_noCourt_14 : decode cX11_noCourt 14 = .ok (.goto 4, 3) := by decide +kernel
theorem dX11_noCourt_17 : decode cX11_noCourt 17 = .ok (.iconst 0, 1) := by decide +kernel
theorem dX11_noCourt_18 : decode cX11_noCourt 18 = .ok (.ireturn, 1) := by decide +kernel
theorem dX11_isPiece_0 : decode cX11_isPiece 0 = .ok (.iload_n 1, 1) := by decide +kernel
theorem dX11_isPiece_1 : decode cX11_isPiece 1 = .ok (.iconst 0, 1) := by decide +kernel
theorem dX11_isPiece_2 : decode cX11_isPiece 2 = .ok (.aload_n 0, 1) := by decide +kernel
theorem dX11_isPiece_3 : decode cX11_isPiece 3 = .ok (.getfield 48, 3) := by decide +kernel
theorem dX11_isPiece_6 : decode cX11_isPiece 6 = .ok (.getfield 168, 3) := by decide +kernel
theorem dX11_isPiece_9 : decode cX11_isPiece 9 = .ok (.getfield 172, 3) := by decide +kernel
theorem dX11_isPiece_12 : decode cX11_isPiece 12 = .ok (.iconst 1, 1) := by decide +kernel
theorem dX11_isPiece_13 : decode cX11_isPiece 13 = .ok (.isub, 1) := by decide +kernel
theorem dX11_isPiece_14 : decode cX11_isPiece 14 = .ok (.invokestatic 68, 3) := by decide +kernel
theorem dX11_isPiece_17 : decode cX11_isPiece 17 = .ok (.ireturn, 1) := by decide +kernel
theorem dX11_isLine_0 : decode cX11_isLine 0 = .ok (.iload_n 1, 1) := by decide +kernel
theorem dX11_isLine_1 : decode cX11_isLine 1 = .ok (.iconst 0, 1) := by decide +kernel
theorem dX11_isLine_2 : decode cX11_isLine 2 = .ok (.aload_n 0, 1) := by decide +kernel
theorem dX11_isLine_3 : decode cX11_isLine 3 = .ok (.getfield 48, 3) := by decide +kernel
theorem dX11_isLine_6 : decode cX11_isLine 6 = .ok (.getfield 168, 3) := by decide +kernel
theorem dX11_isLine_9 : decode cX11_isLine 9 = .ok (.getfield 131, 3) := by decide +kernel
theorem dX11_isLine_12 : decode cX11_isLine 12 = .ok (.iconst 1, 1) := by decide +kernel
theorem dX11_isLine_13 : decode cX11_isLine 13 = .ok (.isub, 1) := by decide +kernel
theorem dX11_isLine_14 : decode cX11_isLine 14 = .ok (.invokestatic 68, 3) := by decide +kernel
theorem dX11_isLine_17 : decode cX11_isLine 17 = .ok (.ireturn, 1) := by decide +kernel
theorem dX11_imageOf_0 : decode cX11_imageOf 0 = .ok (.iload_n 1, 1) := by decide +kernel
theorem dX11_imageOf_1 : decode cX11_imageOf 1 = .ok (.ifCond .ne 10, 3) := by decide +kernel
theorem dX11_imageOf_4 : decode cX11_imageOf 4 = .ok (.aload_n 0, 1) := by decide +kernel
theorem dX11_imageOf_5 : decode cX11_imageOf 5 = .ok (.getfield 52, 3) := by decide +kernel
theorem dX11_imageOf_8 : decode cX11_imageOf 8 = .ok (.goto 7, 3) := by decide +kernel
theorem dX11_imageOf_11 : decode cX11_imageOf 11 = .ok (.aload_n 0, 1) := by decide +kernel
theorem dX11_imageOf_12 : decode cX11_imageOf 12 = .ok (.getfield 55, 3) := by decide +kernel
theorem dX11_imageOf_15 : decode cX11_imageOf 15 = .ok (.areturn, 1) := by decide +kernel
theorem dX11_draftLaid_0 : decode cX11_draftLaid 0 = .ok (.aload_n 0, 1) := by decide +kernel
theorem dX11_draftLaid_1 : decode cX11_draftLaid 1 = .ok (.getfield 58, 3) := by decide +kernel
theorem dX11_draftLaid_4 : decode cX11_draftLaid 4 = .ok (.aload_n 0, 1) := by decide +kernel
theorem dX11_draftLaid_5 : decode cX11_draftLaid 5 = .ok (.getfield 48, 3) := by decide +kernel
theorem dX11_draftLaid_8 : decode cX11_draftLaid 8 = .ok (.invokevirtual 182, 3) := by decide +kernel
theorem dX11_draftLaid_11 : decode cX11_draftLaid 11 = .ok (.aload_n 0, 1) := by decide +kernel
theorem dX11_draftLaid_12 : decode cX11_draftLaid 12 = .ok (.getfield 58, 3) := by decide +kernel
theorem dX11_draftLaid_15 : decode cX11_draftLaid 15 = .ok (.invokevirtual 316, 3) := by decide +kernel
theorem dX11_draftLaid_18 : decode cX11_draftLaid 18 = .ok (.iconst 0, 1) := by decide +kernel
theorem dX11_draftLaid_19 : decode cX11_draftLaid 19 = .ok (.istore_n 3, 1) := by decide +kernel
theorem dX11_draftLaid_20 : decode cX11_draftLaid 20 = .ok (.iload_n 3, 1) := by decide +kernel
theorem dX11_draftLaid_21 : decode cX11_draftLaid 21 = .ok (.aload_n 0, 1) := by decide +kernel
theorem dX11_draftLaid_22 : decode cX11_draftLaid 22 = .ok (.getfield 58, 3) := by decide +kernel
theorem dX11_draftLaid_25 : decode cX11_draftLaid 25 = .ok (.getfield 168, 3) := by decide +kernel
theorem dX11_draftLaid_28 : decode cX11_draftLaid 28 = .ok (.getfield 172, 3) := by decide +kernel
theorem dX11_draftLaid_31 : decode cX11_draftLaid 31 = .ok (.if_icmp .ge 61, 3) := by decide +kernel
theorem dX11_draftLaid_34 : decode cX11_draftLaid 34 = .ok (.aload_n 0, 1) := by decide +kernel
theorem dX11_draftLaid_35 : decode cX11_draftLaid 35 = .ok (.getfield 10, 3) := by decide +kernel
theorem dX11_draftLaid_38 : decode cX11_draftLaid 38 = .ok (.iload_n 1, 1) := by decide +kernel
theorem dX11_draftLaid_39 : decode cX11_draftLaid 39 = .ok (.iload_n 2, 1) := by decide +kernel
theorem dX11_draftLaid_40 : decode cX11_draftLaid 40 = .ok (.iload_n 3, 1) := by decide +kernel
theorem dX11_draftLaid_41 : decode cX11_draftLaid 41 = .ok (.iadd, 1) := by decide +kernel
theorem dX11_draftLaid_42 : decode cX11_draftLaid 42 = .ok (.invokevirtual 319, 3) := by decide +kernel
theorem dX11_draftLaid_45 : decode cX11_draftLaid 45 = .ok (.istore 4, 2) := by decide +kernel
theorem dX11_draftLaid_47 : decode cX11_draftLaid 47 = .ok (.iload 4, 2) := by decide +kernel
theorem dX11_draftLaid_49 : decode cX11_draftLaid 49 = .ok (.iconst (-1), 1) := by decide +kernel
theorem dX11_draftLaid_50 : decode cX11_draftLaid 50 = .ok (.if_icmp .ne 6, 3) := by decide +kernel
theorem dX11_draftLaid_53 : decode cX11_draftLaid 53 = .ok (.goto 33, 3) := by decide +kernel
theorem dX11_draftLaid_56 : decode cX11_draftLaid 56 = .ok (.aload_n 0, 1) := by decide +kernel
theorem dX11_draftLaid_57 : decode cX11_draftLaid 57 = .ok (.getfield 58, 3) := by decide +kernel
theorem dX11_draftLaid_60 : decode cX11_draftLaid 60 = .ok (.iload_n 3, 1) := by decide +kernel
theorem dX11_draftLaid_61 : decode cX11_draftLaid 61 = .ok (.iload 4, 2) := by decide +kernel
theorem dX11_draftLaid_63 : decode cX11_draftLaid 63 = .ok (.invokevirtual 140, 3) := by decide +kernel
theorem dX11_draftLaid_66 : decode cX11_draftLaid 66 = .ok (.istore 5, 2) := by decide +kernel
theorem dX11_draftLaid_68 : decode cX11_draftLaid 68 = .ok (.iload 5, 2) := by decide +kernel
theorem dX11_draftLaid_70 : decode cX11_draftLaid 70 = .ok (.ifCond .eq 6, 3) := by decide +kernel
theorem dX11_draftLaid_73 : decode cX11_draftLaid 73 = .ok (.iload 5, 2) := by decide +kernel
theorem dX11_draftLaid_75 : decode cX11_draftLaid 75 = .ok (.ireturn, 1) := by decide +kernel
theorem dX11_draftLaid_76 : decode cX11_draftLaid 76 = .ok (.aload_n 0, 1) := by decide +kernel
theorem dX11_draftLaid_77 : decode cX11_draftLaid 77 = .ok (.getfield 58, 3) := by decide +kernel
theorem dX11_draftLaid_80 : decode cX11_draftLaid 80 = .ok (.iload_n 3, 1) := by decide +kernel
theorem dX11_draftLaid_81 : decode cX11_draftLaid 81 = .ok (.iload 4, 2) := by decide +kernel
theorem dX11_draftLaid_83 : decode cX11_draftLaid 83 = .ok (.invokevirtual 144, 3) := by decide +kernel
theorem dX11_draftLaid_86 : decode cX11_draftLaid 86 = .ok (.iinc 3 1, 3) := by decide +kernel
theorem dX11_draftLaid_89 : decode cX11_draftLaid 89 = .ok (.goto (-69), 3) := by decide +kernel
theorem dX11_draftLaid_92 : decode cX11_draftLaid 92 = .ok (.iconst 0, 1) := by decide +kernel
theorem dX11_draftLaid_93 : decode cX11_draftLaid 93 = .ok (.ireturn, 1) := by decide +kernel
theorem dX11_hangsAbove_0 : decode cX11_hangsAbove 0 = .ok (.aload_n 0, 1) := by decide +kernel
theorem dX11_hangsAbove_1 : decode cX11_hangsAbove 1 = .ok (.getfield 48, 3) := by decide +kernel
theorem dX11_hangsAbove_4 : decode cX11_hangsAbove 4 = .ok (.iload_n 1, 1) := by decide +kernel
theorem dX11_hangsAbove_5 : decode cX11_hangsAbove 5 = .ok (.invokevirtual 151, 3) := by decide +kernel
theorem dX11_hangsAbove_8 : decode cX11_hangsAbove 8 = .ok (.ifCond .ne 5, 3) := by decide +kernel
theorem dX11_hangsAbove_11 : decode cX11_hangsAbove 11 = .ok (.iconst 0, 1) := by decide +kernel
theorem dX11_hangsAbove_12 : decode cX11_hangsAbove 12 = .ok (.ireturn, 1) := by decide +kernel
theorem dX11_hangsAbove_13 : decode cX11_hangsAbove 13 = .ok (.aload_n 0, 1) := by decide +kernel
theorem dX11_hangsAbove_14 : decode cX11_hangsAbove 14 = .ok (.getfield 48, 3) := by decide +kernel
theorem dX11_hangsAbove_17 : decode cX11_hangsAbove 17 = .ok (.getfield 198, 3) := by decide +kernel
theorem dX11_hangsAbove_20 : decode cX11_hangsAbove 20 = .ok (.iload_n 1, 1) := by decide +kernel
theorem dX11_hangsAbove_21 : decode cX11_hangsAbove 21 = .ok (.iaload, 1) := by decide +kernel
theorem dX11_hangsAbove_22 : decode cX11_hangsAbove 22 = .ok (.istore 4, 2) := by decide +kernel
theorem dX11_hangsAbove_24 : decode cX11_hangsAbove 24 = .ok (.aload_n 0, 1) := by decide +kernel
theorem dX11_hangsAbove_25 : decode cX11_hangsAbove 25 = .ok (.getfield 48, 3) := by decide +kernel
theorem dX11_hangsAbove_28 : decode cX11_hangsAbove 28 = .ok (.getfield 168, 3) := by decide +kernel
theorem dX11_hangsAbove_31 : decode cX11_hangsAbove 31 = .ok (.getfield 215, 3) := by decide +kernel
theorem dX11_hangsAbove_34 : decode cX11_hangsAbove 34 = .ok (.iload 4, 2) := by decide +kernel
theorem dX11_hangsAbove_36 : decode cX11_hangsAbove 36 = .ok (.iaload, 1) := by decide +kernel
theorem dX11_hangsAbove_37 : decode cX11_hangsAbove 37 = .ok (.iload_n 3, 1) := by decide +kernel
theorem dX11_hangsAbove_38 : decode cX11_hangsAbove 38 = .ok (.if_icmp .ne 24, 3) := by decide +kernel
theorem dX11_hangsAbove_41 : decode cX11_hangsAbove 41 = .ok (.aload_n 0, 1) := by decide +kernel
theorem dX11_hangsAbove_42 : decode cX11_hangsAbove 42 = .ok (.getfield 48, 3) := by decide +kernel
theorem dX11_hangsAbove_45 : decode cX11_hangsAbove 45 = .ok (.getfield 168, 3) := by decide +kernel
theorem dX11_hangsAbove_48 : decode cX11_hangsAbove 48 = .ok (.getfield 212, 3) := by decide +kernel
theorem dX11_hangsAbove_51 : decode cX11_hangsAbove 51 = .ok (.iload 4, 2) := by decide +kernel
theorem dX11_hangsAbove_53 : decode cX11_hangsAbove 53 = .ok (.iaload, 1) := by decide +kernel
theorem dX11_hangsAbove_54 : decode cX11_hangsAbove 54 = .ok (.iload_n 2, 1) := by decide +kernel
theorem dX11_hangsAbove_55 : decode cX11_hangsAbove 55 = .ok (.if_icmp .le 7, 3) := by decide +kernel
theorem dX11_hangsAbove_58 : decode cX11_hangsAbove 58 = .ok (.iconst 1, 1) := by decide +kernel
theorem dX11_hangsAbove_59 : decode cX11_hangsAbove 59 = .ok (.goto 4, 3) := by decide +kernel
theorem dX11_hangsAbove_62 : decode cX11_hangsAbove 62 = .ok (.iconst 0, 1) := by decide +kernel
theorem dX11_hangsAbove_63 : decode cX11_hangsAbove 63 = .ok (.ireturn, 1) := by decide +kernel
theorem dX11_findPlan_0 : decode cX11_findPlan 0 = .ok (.aload_n 0, 1) := by decide +kernel
theorem dX11_findPlan_1 : decode cX11_findPlan 1 = .ok (.getfield 58, 3) := by decide +kernel
theorem dX11_findPlan_4 : decode cX11_findPlan 4 = .ok (.aload_n 0, 1) := by decide +kernel
theorem dX11_findPlan_5 : decode cX11_findPlan 5 = .ok (.getfield 48, 3) := by decide +kernel
theorem dX11_findPlan_8 : decode cX11_findPlan 8 = .ok (.invokevirtual 182, 3) := by decide +kernel
theorem dX11_findPlan_11 : decode cX11_findPlan 11 = .ok (.aload_n 0, 1) := by decide +kernel
theorem dX11_findPlan_12 : decode cX11_findPlan 12 = .ok (.bipush 49, 2) := by decide +kernel
theorem dX11_findPlan_14 : decode cX11_findPlan 14 = .ok (.putfield 240, 3) := by decide +kernel
theorem dX11_findPlan_17 : decode cX11_findPlan 17 = .ok (.aload_n 0, 1) := by decide +kernel
theorem dX11_findPlan_18 : decode cX11_findPlan 18 = .ok (.iconst 0, 1) := by decide +kernel
theorem dX11_findPlan_19 : decode cX11_findPlan 19 = .ok (.putfield 322, 3) := by decide +kernel
theorem dX11_findPlan_22 : decode cX11_findPlan 22 = .ok (.iconst 0, 1) := by decide +kernel
theorem dX11_findPlan_23 : decode cX11_findPlan 23 = .ok (.istore_n 2, 1) := by decide +kernel
theorem dX11_findPlan_24 : decode cX11_findPlan 24 = .ok (.iload_n 2, 1) := by decide +kernel
theorem dX11_findPlan_25 : decode cX11_findPlan 25 = .ok (.iload_n 1, 1) := by decide +kernel
theorem dX11_findPlan_26 : decode cX11_findPlan 26 = .ok (.if_icmp .ge 25, 3) := by decide +kernel
theorem dX11_findPlan_29 : decode cX11_findPlan 29 = .ok (.aload_n 0, 1) := by decide +kernel
theorem dX11_findPlan_30 : decode cX11_findPlan 30 = .ok (.aload_n 0, 1) := by decide +kernel
theorem dX11_findPlan_31 : decode cX11_findPlan 31 = .ok (.getfield 322, 3) := by decide +kernel
theorem dX11_findPlan_34 : decode cX11_findPlan 34 = .ok (.aload_n 0, 1) := by decide +kernel
theorem dX11_findPlan_35 : decode cX11_findPlan 35 = .ok (.iload_n 2, 1) := by decide +kernel
theorem dX11_findPlan_36 : decode cX11_findPlan 36 = .ok (.invokevirtual 325, 3) := by decide +kernel
theorem dX11_findPlan_39 : decode cX11_findPlan 39 = .ok (.invokestatic 328, 3) := by decide +kernel
theorem dX11_findPlan_42 : decode cX11_findPlan 42 = .ok (.putfield 322, 3) := by decide +kernel
theorem dX11_findPlan_45 : decode cX11_findPlan 45 = .ok (.iinc 2 1, 3) := by decide +kernel
theorem dX11_findPlan_48 : decode cX11_findPlan 48 = .ok (.goto (-24), 3) := by decide +kernel
theorem dX11_findPlan_51 : decode cX11_findPlan 51 = .ok (.aload_n 0, 1) := by decide +kernel
theorem dX11_findPlan_52 : decode cX11_findPlan 52 = .ok (.iconst 0, 1) := by decide +kernel
theorem dX11_findPlan_53 : decode cX11_findPlan 53 = .ok (.iload_n 1, 1) := by decide +kernel
theorem dX11_findPlan_54 : decode cX11_findPlan 54 = .ok (.invokevirtual 333, 3) := by decide +kernel
theorem dX11_findPlan_57 : decode cX11_findPlan 57 = .ok (.return_, 1) := by decide +kernel
theorem dX11_leastTimeAlone_0 : decode cX11_leastTimeAlone 0 = .ok (.bipush 49, 2) := by decide +kernel
theorem dX11_leastTimeAlone_2 : decode cX11_leastTimeAlone 2 = .ok (.istore_n 2, 1) := by decide +kernel
theorem dX11_leastTimeAlone_3 : decode cX11_leastTimeAlone 3 = .ok (.iconst 0, 1) := by decide +kernel
theorem dX11_leastTimeAlone_4 : decode cX11_leastTimeAlone 4 = .ok (.istore_n 3, 1) := by decide +kernel
theorem dX11_leastTimeAlone_5 : decode cX11_leastTimeAlone 5 = .ok (.iload_n 3, 1) := by decide +kernel
theorem dX11_leastTimeAlone_6 : decode cX11_leastTimeAlone 6 = .ok (.aload_n 0, 1) := by decide +kernel
theorem dX11_leastTimeAlone_7 : decode cX11_leastTimeAlone 7 = .ok (.getfield 58, 3) := by decide +kernel
theorem dX11_leastTimeAlone_10 : decode cX11_leastTimeAlone 10 = .ok (.getfield 168, 3) := by decide +kernel
theorem dX11_leastTimeAlone_13 : decode cX11_leastTimeAlone 13 = .ok (.getfield 131, 3) := by decide +kernel
theorem dX11_leastTimeAlone_16 : decode cX11_leastTimeAlone 16 = .ok (.if_icmp .ge 73, 3) := by decide +kernel
theorem dX11_leastTimeAlone_19 : decode cX11_leastTimeAlone 19 = .ok (.bipush 49, 2) := by decide +kernel
theorem dX11_leastTimeAlone_21 : decode cX11_leastTimeAlone 21 = .ok (.istore 4, 2) := by decide +kernel
theorem dX11_leastTimeAlone_23 : decode cX11_leastTimeAlone 23 = .ok (.aload_n 0, 1) := by decide +kernel
theorem dX11_leastTimeAlone_24 : decode cX11_leastTimeAlone 24 = .ok (.getfield 58, 3) := by decide +kernel
theorem dX11_leastTimeAlone_27 : decode cX11_leastTimeAlone 27 = .ok (.iload_n 1, 1) := by decide +kernel
theorem dX11_leastTimeAlone_28 : decode cX11_leastTimeAlone 28 = .ok (.iload_n 3, 1) := by decide +kernel
theorem dX11_leastTimeAlone_29 : decode cX11_leastTimeAlone 29 = .ok (.invokevirtual 140, 3) := by decide +kernel
theorem dX11_leastTimeAlone_32 : decode cX11_leastTimeAlone 32 = .ok (.ifCond .ne 31, 3) := by decide +kernel
theorem dX11_leastTimeAlone_35 : decode cX11_leastTimeAlone 35 = .ok (.aload_n 0, 1) := by decide +kernel
theorem dX11_leastTimeAlone_36 : decode cX11_leastTimeAlone 36 = .ok (.getfield 58, 3) := by decide +kernel
theorem dX11_leastTimeAlone_39 : decode cX11_leastTimeAlone 39 = .ok (.iload_n 1, 1) := by decide +kernel
theorem dX11_leastTimeAlone_40 : decode cX11_leastTimeAlone 40 = .ok (.iload_n 3, 1) := by decide +kernel
theorem dX11_leastTimeAlone_41 : decode cX11_leastTimeAlone 41 = .ok (.invokevirtual 144, 3) := by decide +kernel
theorem dX11_leastTimeAlone_44 : decode cX11_leastTimeAlone 44 = .ok (.aload_n 0, 1) := by decide +kernel
theorem dX11_leastTimeAlone_45 : decode cX11_leastTimeAlone 45 = .ok (.iload_n 1, 1) := by decide +kernel
theorem dX11_leastTimeAlone_46 : decode cX11_leastTimeAlone 46 = .ok (.iload_n 1, 1) := by decide +kernel
theorem dX11_leastTimeAlone_47 : decode cX11_leastTimeAlone 47 = .ok (.bipush 49, 2) := by decide +kernel
theorem dX11_leastTimeAlone_49 : decode cX11_leastTimeAlone 49 = .ok (.invokevirtual 336, 3) := by decide +kernel
theorem dX11_leastTimeAlone_52 : decode cX11_leastTimeAlone 52 = .ok (.istore 4, 2) := by decide +kernel
theorem dX11_leastTimeAlone_54 : decode cX11_leastTimeAlone 54 = .ok (.aload_n 0, 1) := by decide +kernel
theorem dX11_leastTimeAlone_55 : decode cX11_leastTimeAlone 55 = .ok (.getfield 58, 3) := by decide +kernel
theorem dX11_leastTimeAlone_58 : decode cX11_leastTimeAlone 58 = .ok (.iload_n 1, 1) := by decide +kernel
theorem dX11_leastTimeAlone_59 : decode cX11_leastTimeAlone 59 = .ok (.invokevirtual 155, 3) := by decide +kernel
theorem dX11_leastTimeAlone_62 : decode cX11_leastTimeAlone 62 = .ok (.pop, 1) := by decide +kernel
theorem dX11_leastTimeAlone_63 : decode cX11_leastTimeAlone 63 = .ok (.aload_n 0, 1) := by decide +kernel
theorem dX11_leastTimeAlone_64 : decode cX11_leastTimeAlone 64 = .ok (.getfield 39, 3) := by decide +kernel
theorem dX11_leastTimeAlone_67 : decode cX11_leastTimeAlone 67 = .ok (.iload_n 1, 1) := by decide +kernel
theorem dX11_leastTimeAlone_68 : decode cX11_leastTimeAlone 68 = .ok (.bipush 8, 2) := by decide +kernel
theorem dX11_leastTimeAlone_70 : decode cX11_leastTimeAlone 70 = .ok (.imul, 1) := by decide +kernel
theorem dX11_leastTimeAlone_71 : decode cX11_leastTimeAlone 71 = .ok (.iload_n 3, 1) := by decide +kernel
theorem dX11_leastTimeAlone_72 : decode cX11_leastTimeAlone 72 = .ok (.iadd, 1) := by decide +kernel
theorem dX11_leastTimeAlone_73 : decode cX11_leastTimeAlone 73 = .ok (.iload 4, 2) := by decide +kernel
theorem dX11_leastTimeAlone_75 : decode cX11_leastTimeAlone 75 = .ok (.iastore, 1) := by decide +kernel
theorem dX11_leastTimeAlone_76 : decode cX11_leastTimeAlone 76 = .ok (.iload_n 2, 1) := by decide +kernel
theorem dX11_leastTimeAlone_77 : decode cX11_leastTimeAlone 77 = .ok (.iload 4, 2) := by decide +kernel
theorem dX11_leastTimeAlone_79 : decode cX11_leastTimeAlone 79 = .ok (.invokestatic 339, 3) := by decide +kernel
theorem dX11_leastTimeAlone_82 : decode cX11_leastTimeAlone 82 = .ok (.istore_n 2, 1) := by decide +kernel
theorem dX11_leastTimeAlone_83 : decode cX11_leastTimeAlone 83 = .ok (.iinc 3 1, 3) := by decide +kernel
theorem dX11_leastTimeAlone_86 : decode cX11_leastTimeAlone 86 = .ok (.goto (-81), 3) := by decide +kernel
theorem dX11_leastTimeAlone_89 : decode cX11_leastTimeAlone 89 = .ok (.iload_n 2, 1) := by decide +kernel
theorem dX11_leastTimeAlone_90 : decode cX11_leastTimeAlone 90 = .ok (.ireturn, 1) := by decide +kernel
theorem dX11_planPiece_0 : decode cX11_planPiece 0 = .ok (.iload_n 1, 1) := by decide +kernel
theorem dX11_planPiece_1 : decode cX11_planPiece 1 = .ok (.iload_n 2, 1) := by decide +kernel
theorem dX11_planPiece_2 : decode cX11_planPiece 2 = .ok (.if_icmp .ge 8, 3) := by decide +kernel
theorem dX11_planPiece_5 : decode cX11_planPiece 5 = .ok (.iload_n 1, 1) := by decide +kernel
theorem dX11_planPiece_6 : decode cX11_planPiece 6 = .ok (.iconst 4, 1) := by decide +kernel
theorem dX11_planPiece_7 : decode cX11_planPiece 7 = .ok (.if_icmp .lt 4, 3) := by decide +kernel
theorem dX11_planPiece_10 : decode cX11_planPiece 10 = .ok (.return_, 1) := by decide +kernel
theorem dX11_planPiece_11 : decode cX11_planPiece 11 = .ok (.iconst 0, 1) := by decide +kernel
theorem dX11_planPiece_12 : decode cX11_planPiece 12 = .ok (.istore_n 3, 1) := by decide +kernel
theorem dX11_planPiece_13 : decode cX11_planPiece 13 = .ok (.iload_n 3, 1) := by decide +kernel
theorem dX11_planPiece_14 : decode cX11_planPiece 14 = .ok (.aload_n 0, 1) := by decide +kernel
theorem dX11_planPiece_15 : decode cX11_planPiece 15 = .ok (.getfield 58, 3) := by decide +kernel
theorem dX11_planPiece_18 : decode cX11_planPiece 18 = .ok (.getfield 168, 3) := by decide +kernel
theorem dX11_planPiece_21 : decode cX11_planPiece 21 = .ok (.getfield 131, 3) := by decide +kernel
theorem dX11_planPiece_24 : decode cX11_planPiece 24 = .ok (.if_icmp .ge 146, 3) := by decide +kernel
theorem dX11_planPiece_27 : decode cX11_planPiece 27 = .ok (.aload_n 0, 1) := by decide +kernel
theorem dX11_planPiece_28 : decode cX11_planPiece 28 = .ok (.getfield 240, 3) := by decide +kernel
theorem dX11_planPiece_31 : decode cX11_planPiece 31 = .ok (.aload_n 0, 1) := by decide +kernel
theorem dX11_planPiece_32 : decode cX11_planPiece 32 = .ok (.getfield 322, 3) := by decide +kernel
theorem dX11_planPiece_35 : decode cX11_planPiece 35 = .ok (.if_icmp .le 135, 3) := by decide +kernel
theorem dX11_planPiece_38 : decode cX11_planPiece 38 = .ok (.aload_n 0, 1) := by decide +kernel
theorem dX11_planPiece_39 : decode cX11_planPiece 39 = .ok (.getfield 39, 3) := by decide +kernel
theorem dX11_planPiece_42 : decode cX11_planPiece 42 = .ok (.iload_n 1, 1) := by decide +kernel
theorem dX11_planPiece_43 : decode cX11_planPiece 43 = .ok (.bipush 8, 2) := by decide +kernel
theorem dX11_planPiece_45 : decode cX11_planPiece 45 = .ok (.imul, 1) := by decide +kernel
theorem dX11_planPiece_46 : decode cX11_planPiece 46 = .ok (.iload_n 3, 1) := by decide +kernel
theorem dX11_planPiece_47 : decode cX11_planPiece 47 = .ok (.iadd, 1) := by decide +kernel
theorem dX11_planPiece_48 : decode cX11_planPiece 48 = .ok (.iaload, 1) := by decide +kernel
theorem dX11_planPiece_49 : decode cX11_planPiece 49 = .ok (.aload_n 0, 1) := by decide +kernel
theorem dX11_planPiece_50 : decode cX11_planPiece 50 = .ok (.getfield 240, 3) := by decide +kernel
theorem dX11_planPiece_53 : decode cX11_planPiece 53 = .ok (.if_icmp .ge 111, 3) := by decide +kernel
theorem dX11_planPiece_56 : decode cX11_planPiece 56 = .ok (.aload_n 0, 1) := by decide +kernel
theorem dX11_planPiece_57 : decode cX11_planPiece 57 = .ok (.getfield 58, 3) := by decide +kernel
theorem dX11_planPiece_60 : decode cX11_planPiece 60 = .ok (.iload_n 1, 1) := by decide +kernel
theorem dX11_planPiece_61 : decode cX11_planPiece 61 = .ok (.iload_n 3, 1) := by decide +kernel
theorem dX11_planPiece_62 : decode cX11_planPiece 62 = .ok (.invokevirtual 140, 3) := by decide +kernel
theorem dX11_planPiece_65 : decode cX11_planPiece 65 = .ok (.ifCond .eq 6, 3) := by decide +kernel
theorem dX11_planPiece_68 : decode cX11_planPiece 68 = .ok (.goto 96, 3) := by decide +kernel
theorem dX11_planPiece_71 : decode cX11_planPiece 71 = .ok (.aload_n 0, 1) := by decide +kernel
theorem dX11_planPiece_72 : decode cX11_planPiece 72 = .ok (.getfield 58, 3) := by decide +kernel
theorem dX11_planPiece_75 : decode cX11_planPiece 75 = .ok (.iload_n 1, 1) := by decide +kernel
theorem dX11_planPiece_76 : decode cX11_planPiece 76 = .ok (.iload_n 3, 1) := by decide +kernel
theorem dX11_planPiece_77 : decode cX11_planPiece 77 = .ok (.invokevirtual 144, 3) := by decide +kernel
theorem dX11_planPiece_80 : decode cX11_planPiece 80 = .ok (.aload_n 0, 1) := by decide +kernel
theorem dX11_planPiece_81 : decode cX11_planPiece 81 = .ok (.getfield 30, 3) := by decide +kernel
theorem dX11_planPiece_84 : decode cX11_planPiece 84 = .ok (.iload_n 1, 1) := by decide +kernel
theorem dX11_planPiece_85 : decode cX11_planPiece 85 = .ok (.iload_n 3, 1) := by decide +kernel
theorem dX11_planPiece_86 : decode cX11_planPiece 86 = .ok (.iastore, 1) := by decide +kernel
theorem dX11_planPiece_87 : decode cX11_planPiece 87 = .ok (.aload_n 0, 1) := by decide +kernel
theorem dX11_planPiece_88 : decode cX11_planPiece 88 = .ok (.iconst 0, 1) := by decide +kernel
theorem dX11_planPiece_89 : decode cX11_planPiece 89 = .ok (.iload_n 1, 1) := by decide +kernel
theorem dX11_planPiece_90 : decode cX11_planPiece 90 = .ok (.aload_n 0, 1) := by decide +kernel
theorem dX11_planPiece_91 : decode cX11_planPiece 91 = .ok (.getfield 240, 3) := by decide +kernel
theorem dX11_planPiece_94 : decode cX11_planPiece 94 = .ok (.invokevirtual 336, 3) := by decide +kernel
theorem dX11_planPiece_97 : decode cX11_planPiece 97 = .ok (.istore 4, 2) := by decide +kernel
theorem dX11_planPiece_99 : decode cX11_planPiece 99 = .ok (.iload 4, 2) := by decide +kernel
theorem dX11_planPiece_101 : decode cX11_planPiece 101 = .ok (.aload_n 0, 1) := by decide +kernel
theorem dX11_planPiece_102 : decode cX11_planPiece 102 = .ok (.getfield 240, 3) := by decide +kernel
theorem dX11_planPiece_105 : decode cX11_planPiece 105 = .ok (.if_icmp .ge 33, 3) := by decide +kernel
theorem dX11_planPiece_108 : decode cX11_planPiece 108 = .ok (.iload_n 1, 1) := by decide +kernel
theorem dX11_planPiece_109 : decode cX11_planPiece 109 = .ok (.iload_n 2, 1) := by decide +kernel
theorem dX11_planPiece_110 : decode cX11_planPiece 110 = .ok (.iconst 1, 1) := by decide +kernel
theorem dX11_planPiece_111 : decode cX11_planPiece 111 = .ok (.isub, 1) := by decide +kernel
theorem dX11_planPiece_112 : decode cX11_planPiece 112 = .ok (.if_icmp .ne 26, 3) := by decide +kernel
theorem dX11_planPiece_115 : decode cX11_planPiece 115 = .ok (.aload_n 0, 1) := by decide +kernel
theorem dX11_planPiece_116 : decode cX11_planPiece 116 = .ok (.iload 4, 2) := by decide +kernel
theorem dX11_planPiece_118 : decode cX11_planPiece 118 = .ok (.putfield 240, 3) := by decide +kernel
theorem dX11_planPiece_121 : decode cX11_planPiece 121 = .ok (.aload_n 0, 1) := by decide +kernel
theorem dX11_planPiece_122 : decode cX11_planPiece 122 = .ok (.getfield 30, 3) := by decide +kernel
theorem dX11_planPiece_125 : decode cX11_planPiece 125 = .ok (.iconst 0, 1) := by decide +kernel
theorem dX11_planPiece_126 : decode cX11_planPiece 126 = .ok (.aload_n 0, 1) := by decide +kernel
theorem dX11_planPiece_127 : decode cX11_planPiece 127 = .ok (.getfield 34, 3) := by decide +kernel
theorem dX11_planPiece_130 : decode cX11_planPiece 130 = .ok (.iconst 0, 1) := by decide +kernel
theorem dX11_planPiece_131 : decode cX11_planPiece 131 = .ok (.iload_n 2, 1) := by decide +kernel
theorem dX11_planPiece_132 : decode cX11_planPiece 132 = .ok (.invokestatic 342, 3) := by decide +kernel
theorem dX11_planPiece_135 : decode cX11_planPiece 135 = .ok (.goto 20, 3) := by decide +kernel
theorem dX11_planPiece_138 : decode cX11_planPiece 138 = .ok (.iload 4, 2) := by decide +kernel
theorem dX11_planPiece_140 : decode cX11_planPiece 140 = .ok (.aload_n 0, 1) := by decide +kernel
theorem dX11_planPiece_141 : decode cX11_planPiece 141 = .ok (.getfield 240, 3) := by decide +kernel
theorem dX11_planPiece_144 : decode cX11_planPiece 144 = .ok (.if_icmp .ge 11, 3) := by decide +kernel
theorem dX11_planPiece_147 : decode cX11_planPiece 147 = .ok (.aload_n 0, 1) := by decide +kernel
theorem dX11_planPiece_148 : decode cX11_planPiece 148 = .ok (.iload_n 1, 1) := by decide +kernel
theorem dX11_planPiece_149 : decode cX11_planPiece 149 = .ok (.iconst 1, 1) := by decide +kernel
theorem dX11_planPiece_150 : decode cX11_planPiece 150 = .ok (.iadd, 1) := by decide +kernel
theorem dX11_planPiece_151 : decode cX11_planPiece 151 = .ok (.iload_n 2, 1) := by decide +kernel
theorem dX11_planPiece_152 : decode cX11_planPiece 152 = .ok (.invokevirtual 333, 3) := by decide +kernel
theorem dX11_planPiece_155 : decode cX11_planPiece 155 = .ok (.aload_n 0, 1) := by decide +kernel
theorem dX11_planPiece_156 : decode cX11_planPiece 156 = .ok (.getfield 58, 3) := by decide +kernel
theorem dX11_planPiece_159 : decode cX11_planPiece 159 = .ok (.iload_n 1, 1) := by decide +kernel
theorem dX11_planPiece_160 : decode cX11_planPiece 160 = .ok (.invokevirtual 155, 3) := by decide +kernel
theorem dX11_planPiece_163 : decode cX11_planPiece 163 = .ok (.pop, 1) := by decide +kernel
theorem dX11_planPiece_164 : decode cX11_planPiece 164 = .ok (.iinc 3 1, 3) := by decide +kernel
theorem dX11_planPiece_167 : decode cX11_planPiece 167 = .ok (.goto (-154), 3) := by decide +kernel
theorem dX11_planPiece_170 : decode cX11_planPiece 170 = .ok (.return_, 1) := by decide +kernel
theorem dX11_timeUntilDry_0 : decode cX11_timeUntilDry 0 = .ok (.aload_n 0, 1) := by decide +kernel
theorem dX11_timeUntilDry_1 : decode cX11_timeUntilDry 1 = .ok (.getfield 61, 3) := by decide +kernel
theorem dX11_timeUntilDry_4 : decode cX11_timeUntilDry 4 = .ok (.aload_n 0, 1) := by decide +kernel
theorem dX11_timeUntilDry_5 : decode cX11_timeUntilDry 5 = .ok (.getfield 58, 3) := by decide +kernel
theorem dX11_timeUntilDry_8 : decode cX11_timeUntilDry 8 = .ok (.invokevirtual 182, 3) := by decide +kernel
theorem dX11_timeUntilDry_11 : decode cX11_timeUntilDry 11 = .ok (.iconst 0, 1) := by decide +kernel
theorem dX11_timeUntilDry_12 : decode cX11_timeUntilDry 12 = .ok (.istore 4, 2) := by decide +kernel
theorem dX11_timeUntilDry_14 : decode cX11_timeUntilDry 14 = .ok (.iload 4, 2) := by decide +kernel
theorem dX11_timeUntilDry_16 : decode cX11_timeUntilDry 16 = .ok (.iload_n 3, 1) := by decide +kernel
theorem dX11_timeUntilDry_17 : decode cX11_timeUntilDry 17 = .ok (.if_icmp .ge 49, 3) := by decide +kernel
theorem dX11_timeUntilDry_20 : decode cX11_timeUntilDry 20 = .ok (.aload_n 0, 1) := by decide +kernel
theorem dX11_timeUntilDry_21 : decode cX11_timeUntilDry 21 = .ok (.getfield 61, 3) := by decide +kernel
theorem dX11_timeUntilDry_24 : decode cX11_timeUntilDry 24 = .ok (.iload_n 1, 1) := by decide +kernel
theorem dX11_timeUntilDry_25 : decode cX11_timeUntilDry 25 = .ok (.iload_n 2, 1) := by decide +kernel
theorem dX11_timeUntilDry_26 : decode cX11_timeUntilDry 26 = .ok (.invokevirtual 348, 3) := by decide +kernel
theorem dX11_timeUntilDry_29 : decode cX11_timeUntilDry 29 = .ok (.ifCond .eq 6, 3) := by decide +kernel
theorem dX11_timeUntilDry_32 : decode cX11_timeUntilDry 32 = .ok (.iload 4, 2) := by decide +kernel
theorem dX11_timeUntilDry_34 : decode cX11_timeUntilDry 34 = .ok (.ireturn, 1) := by decide +kernel
theorem dX11_timeUntilDry_35 : decode cX11_timeUntilDry 35 = .ok (.aload_n 0, 1) := by decide +kernel
theorem dX11_timeUntilDry_36 : decode cX11_timeUntilDry 36 = .ok (.getfield 61, 3) := by decide +kernel
theorem dX11_timeUntilDry_39 : decode cX11_timeUntilDry 39 = .ok (.invokevirtual 162, 3) := by decide +kernel
theorem dX11_timeUntilDry_42 : decode cX11_timeUntilDry 42 = .ok (.aload_n 0, 1) := by decide +kernel
theorem dX11_timeUntilDry_43 : decode cX11_timeUntilDry 43 = .ok (.getfield 61, 3) := by decide +kernel
theorem dX11_timeUntilDry_46 : decode cX11_timeUntilDry 46 = .ok (.aload_n 0, 1) := by decide +kernel
theorem dX11_timeUntilDry_47 : decode cX11_timeUntilDry 47 = .ok (.getfield 58, 3) := by decide +kernel
theorem dX11_timeUntilDry_50 : decode cX11_timeUntilDry 50 = .ok (.iload_n 1, 1) := by decide +kernel
theorem dX11_timeUntilDry_51 : decode cX11_timeUntilDry 51 = .ok (.iload_n 2, 1) := by decide +kernel
theorem dX11_timeUntilDry_52 : decode cX11_timeUntilDry 52 = .ok (.invokevirtual 351, 3) := by decide +kernel
theorem dX11_timeUntilDry_55 : decode cX11_timeUntilDry 55 = .ok (.ifCond .eq 5, 3) := by decide +kernel
theorem dX11_timeUntilDry_58 : decode cX11_timeUntilDry 58 = .ok (.iload_n 3, 1) := by decide +kernel
theorem dX11_timeUntilDry_59 : decode cX11_timeUntilDry 59 = .ok (.ireturn, 1) := by decide +kernel
theorem dX11_timeUntilDry_60 : decode cX11_timeUntilDry 60 = .ok (.iinc 4 1, 3) := by decide +kernel
theorem dX11_timeUntilDry_63 : decode cX11_timeUntilDry 63 = .ok (.goto (-49), 3) := by decide +kernel
theorem dX11_timeUntilDry_66 : decode cX11_timeUntilDry 66 = .ok (.iload_n 3, 1) := by decide +kernel
theorem dX11_timeUntilDry_67 : decode cX11_timeUntilDry 67 = .ok (.ireturn, 1) := by decide +kernel
theorem dX11_linesByRings_0 : decode cX11_linesByRings 0 = .ok (.aload_n 1, 1) := by decide +kernel
theorem dX11_linesByRings_1 : decode cX11_linesByRings 1 = .ok (.arraylength, 1) := by decide +kernel
theorem dX11_linesByRings_2 : decode cX11_linesByRings 2 = .ok (.istore_n 2, 1) := by decide +kernel
theorem dX11_linesByRings_3 : decode cX11_linesByRings 3 = .ok (.iload_n 2, 1) := by decide +kernel
theorem dX11_linesByRings_4 : decode cX11_linesByRings 4 = .ok (.newarray .int, 2) := by decide +kernel
theorem dX11_linesByRings_6 : decode cX11_linesByRings 6 = .ok (.astore_n 3, 1) := by decide +kernel
theorem dX11_linesByRings_7 : decode cX11_linesByRings 7 = .ok (.iload_n 2, 1) := by decide +kernel
theorem dX11_linesByRings_8 : decode cX11_linesByRings 8 = .ok (.newarray .int, 2) := by decide +kernel
theorem dX11_linesByRings_10 : decode cX11_linesByRings 10 = .ok (.astore 4, 2) := by decide +kernel
theorem dX11_linesByRings_12 : decode cX11_linesByRings 12 = .ok (.aload_n 3, 1) := by decide +kernel
theorem dX11_linesByRings_13 : decode cX11_linesByRings 13 = .ok (.iconst (-1), 1) := by decide +kernel
theorem dX11_linesByRings_14 : decode cX11_linesByRings 14 = .ok (.invokestatic 355, 3) := by decide +kernel
theorem dX11_linesByRings_17 : decode cX11_linesByRings 17 = .ok (.iconst 0, 1) := by decide +kernel
theorem dX11_linesByRings_18 : decode cX11_linesByRings 18 = .ok (.istore 5, 2) := by decide +kernel
theorem dX11_linesByRings_20 : decode cX11_linesByRings 20 = .ok (.iload 5, 2) := by decide +kernel
theorem dX11_linesByRings_22 : decode cX11_linesByRings 22 = .ok (.iload_n 2, 1) := by decide +kernel
theorem dX11_linesByRings_23 : decode cX11_linesByRings 23 = .ok (.if_icmp .ge 93, 3) := by decide +kernel
theorem dX11_linesByRings_26 : decode cX11_linesByRings 26 = .ok (.iconst 0, 1) := by decide +kernel
theorem dX11_linesByRings_27 : decode cX11_linesByRings 27 = .ok (.istore 6, 2) := by decide +kernel
theorem dX11_linesByRings_29 : decode cX11_linesByRings 29 = .ok (.iload 6, 2) := by decide +kernel
theorem dX11_linesByRings_31 : decode cX11_linesByRings 31 = .ok (.iload_n 2, 1) := by decide +kernel
theorem dX11_linesByRings_32 : decode cX11_linesByRings 32 = .ok (.if_icmp .ge 34, 3) := by decide +kernel
theorem dX11_linesByRings_35 : decode cX11_linesByRings 35 = .ok (.aload 4, 2) := by decide +kernel
theorem dX11_linesByRings_37 : decode cX11_linesByRings 37 = .ok (.iload 6, 2) := by decide +kernel
theorem dX11_linesByRings_39 : decode cX11_linesByRings 39 = .ok (.aload_n 3, 1) := by decide +kernel
theorem dX11_linesByRings_40 : decode cX11_linesByRings 40 = .ok (.iload 6, 2) := by decide +kernel
theorem dX11_linesByRings_42 : decode cX11_linesByRings 42 = .ok (.iaload, 1) := by decide +kernel
theorem dX11_linesByRings_43 : decode cX11_linesByRings 43 = .ok (.ifCond .ge 14, 3) := by decide +kernel
theorem dX11_linesByRings_46 : decode cX11_linesByRings 46 = .ok (.aload_n 0, 1) := by decide +kernel
theorem dX11_linesByRings_47 : decode cX11_linesByRings 47 = .ok (.iload 6, 2) := by decide +kernel
theorem dX11_linesByRings_49 : decode cX11_linesByRings 49 = .ok (.aload_n 1, 1) := by decide +kernel
theorem dX11_linesByRings_50 : decode cX11_linesByRings 50 = .ok (.aload_n 3, 1) := by decide +kernel
theorem dX11_linesByRings_51 : decode cX11_linesByRings 51 = .ok (.invokevirtual 361, 3) := by decide +kernel
theorem dX11_linesByRings_54 : decode cX11_linesByRings 54 = .ok (.goto 5, 3) := by decide +kernel
theorem dX11_linesByRings_57 : decode cX11_linesByRings 57 = .ok (.iload 6, 2) := by decide +kernel
theorem dX11_linesByRings_59 : decode cX11_linesByRings 59 = .ok (.iastore, 1) := by decide +kernel
theorem dX11_linesByRings_60 : decode cX11_linesByRings 60 = .ok (.iinc 6 1, 3) := by decide +kernel
theorem dX11_linesByRings_63 : decode cX11_linesByRings 63 = .ok (.goto (-34), 3) := by decide +kernel
theorem dX11_linesByRings_66 : decode cX11_linesByRings 66 = .ok (.iconst 0, 1) := by decide +kernel
theorem dX11_linesByRings_67 : decode cX11_linesByRings 67 = .ok (.istore 6, 2) := by decide +kernel
theorem dX11_linesByRings_69 : decode cX11_linesByRings 69 = .ok (.iload 6, 2) := by decide +kernel
theorem dX11_linesByRings_71 : decode cX11_linesByRings 71 = .ok (.iload_n 2, 1) := by decide +kernel
theorem dX11_linesByRings_72 : decode cX11_linesByRings 72 = .ok (.if_icmp .ge 38, 3) := by decide +kernel
theorem dX11_linesByRings_75 : decode cX11_linesByRings 75 = .ok (.aload_n 3, 1) := by decide +kernel
theorem dX11_linesByRings_76 : decode cX11_linesByRings 76 = .ok (.iload 6, 2) := by decide +kernel
theorem dX11_linesByRings_78 : decode cX11_linesByRings 78 = .ok (.iaload, 1) := by decide +kernel
theorem dX11_linesByRings_79 : decode cX11_linesByRings 79 = .ok (.ifCond .ge 25, 3) := by decide +kernel
theorem dX11_linesByRings_82 : decode cX11_linesByRings 82 = .ok (.aload_n 0, 1) := by decide +kernel
theorem dX11_linesByRings_83 : decode cX11_linesByRings 83 = .ok (.iload 6, 2) := by decide +kernel
theorem dX11_linesByRings_85 : decode cX11_linesByRings 85 = .ok (.aload 4, 2) := by decide +kernel
theorem dX11_linesByRings_87 : decode cX11_linesByRings 87 = .ok (.invokevirtual 365, 3) := by decide +kernel
theorem dX11_linesByRings_90 : decode cX11_linesByRings 90 = .ok (.ifCond .eq 14, 3) := by decide +kernel
theorem dX11_linesByRings_93 : decode cX11_linesByRings 93 = .ok (.aload_n 3, 1) := by decide +kernel
theorem dX11_linesByRings_94 : decode cX11_linesByRings 94 = .ok (.iload 6, 2) := by decide +kernel
theorem dX11_linesByRings_96 : decode cX11_linesByRings 96 = .ok (.aload_n 1, 1) := by decide +kernel
theorem dX11_linesByRings_97 : decode cX11_linesByRings 97 = .ok (.aload 4, 2) := by decide +kernel
theorem dX11_linesByRings_99 : decode cX11_linesByRings 99 = .ok (.iload 6, 2) := by decide +kernel
theorem dX11_linesByRings_101 : decode cX11_linesByRings 101 = .ok (.iaload, 1) := by decide +kernel
theorem dX11_linesByRings_102 : decode cX11_linesByRings 102 = .ok (.iaload, 1) := by decide +kernel
theorem dX11_linesByRings_103 : decode cX11_linesByRings 103 = .ok (.iastore, 1) := by decide +kernel
theorem dX11_linesByRings_104 : decode cX11_linesByRings 104 = .ok (.iinc 6 1, 3) := by decide +kernel
theorem dX11_linesByRings_107 : decode cX11_linesByRings 107 = .ok (.goto (-38), 3) := by decide +kernel
theorem dX11_linesByRings_110 : decode cX11_linesByRings 110 = .ok (.iinc 5 1, 3) := by decide +kernel
theorem dX11_linesByRings_113 : decode cX11_linesByRings 113 = .ok (.goto (-93), 3) := by decide +kernel
theorem dX11_linesByRings_116 : decode cX11_linesByRings 116 = .ok (.aload_n 3, 1) := by decide +kernel
theorem dX11_linesByRings_117 : decode cX11_linesByRings 117 = .ok (.areturn, 1) := by decide +kernel
theorem dX11_likedMost_0 : decode cX11_likedMost 0 = .ok (.iload_n 1, 1) := by decide +kernel
theorem dX11_likedMost_1 : decode cX11_likedMost 1 = .ok (.istore 4, 2) := by decide +kernel
theorem dX11_likedMost_3 : decode cX11_likedMost 3 = .ok (.iconst 0, 1) := by decide +kernel
theorem dX11_likedMost_4 : decode cX11_likedMost 4 = .ok (.istore 5, 2) := by decide +kernel
theorem dX11_likedMost_6 : decode cX11_likedMost 6 = .ok (.iload 5, 2) := by decide +kernel
theorem dX11_likedMost_8 : decode cX11_likedMost 8 = .ok (.aload_n 2, 1) := by decide +kernel
theorem dX11_likedMost_9 : decode cX11_likedMost 9 = .ok (.arraylength, 1) := by decide +kernel
theorem dX11_likedMost_10 : decode cX11_likedMost 10 = .ok (.if_icmp .ge 36, 3) := by decide +kernel
theorem dX11_likedMost_13 : decode cX11_likedMost 13 = .ok (.aload_n 3, 1) := by decide +kernel
theorem dX11_likedMost_14 : decode cX11_likedMost 14 = .ok (.iload 5, 2) := by decide +kernel
theorem dX11_likedMost_16 : decode cX11_likedMost 16 = .ok (.iaload, 1) := by decide +kernel
theorem dX11_likedMost_17 : decode cX11_likedMost 17 = .ok (.ifCond .ge 23, 3) := by decide +kernel
theorem dX11_likedMost_20 : decode cX11_likedMost 20 = .ok (.aload_n 0, 1) := by decide +kernel
theorem dX11_likedMost_21 : decode cX11_likedMost 21 = .ok (.iload_n 1, 1) := by decide +kernel
theorem dX11_likedMost_22 : decode cX11_likedMost 22 = .ok (.aload_n 2, 1) := by decide +kernel
theorem dX11_likedMost_23 : decode cX11_likedMost 23 = .ok (.iload 5, 2) := by decide +kernel
theorem dX11_likedMost_25 : decode cX11_likedMost 25 = .ok (.iaload, 1) := by decide +kernel
theorem dX11_likedMost_26 : decode cX11_likedMost 26 = .ok (.aload_n 2, 1) := by decide +kernel
theorem dX11_likedMost_27 : decode cX11_likedMost 27 = .ok (.iload 4, 2) := by decide +kernel
theorem dX11_likedMost_29 : decode cX11_likedMost 29 = .ok (.iaload, 1) := by decide +kernel
theorem dX11_likedMost_30 : decode cX11_likedMost 30 = .ok (.invokevirtual 369, 3) := by decide +kernel
theorem dX11_likedMost_33 : decode cX11_likedMost 33 = .ok (.ifCond .eq 7, 3) := by decide +kernel
theorem dX11_likedMost_36 : decode cX11_likedMost 36 = .ok (.iload 5, 2) := by decide +kernel
theorem dX11_likedMost_38 : decode cX11_likedMost 38 = .ok (.istore 4, 2) := by decide +kernel
theorem dX11_likedMost_40 : decode cX11_likedMost 40 = .ok (.iinc 5 1, 3) := by decide +kernel
theorem dX11_likedMost_43 : decode cX11_likedMost 43 = .ok (.goto (-37), 3) := by decide +kernel
theorem dX11_likedMost_46 : decode cX11_likedMost 46 = .ok (.iload 4, 2) := by decide +kernel
theorem dX11_likedMost_48 : decode cX11_likedMost 48 = .ok (.ireturn, 1) := by decide +kernel
theorem dX11_likesMore_0 : decode cX11_likesMore 0 = .ok (.aload_n 0, 1) := by decide +kernel
theorem dX11_likesMore_1 : decode cX11_likesMore 1 = .ok (.getfield 48, 3) := by decide +kernel
theorem dX11_likesMore_4 : decode cX11_likesMore 4 = .ok (.getfield 168, 3) := by decide +kernel
theorem dX11_likesMore_7 : decode cX11_likesMore 7 = .ok (.iload_n 2, 1) := by decide +kernel
theorem dX11_likesMore_8 : decode cX11_likesMore 8 = .ok (.iconst 4, 1) := by decide +kernel
theorem dX11_likesMore_9 : decode cX11_likesMore 9 = .ok (.iload_n 1, 1) := by decide +kernel
theorem dX11_likesMore_10 : decode cX11_likesMore 10 = .ok (.imul, 1) := by decide +kernel
theorem dX11_likesMore_11 : decode cX11_likesMore 11 = .ok (.iconst 4, 1) := by decide +kernel
theorem dX11_likesMore_12 : decode cX11_likesMore 12 = .ok (.iload_n 1, 1) := by decide +kernel
theorem dX11_likesMore_13 : decode cX11_likesMore 13 = .ok (.imul, 1) := by decide +kernel
theorem dX11_likesMore_14 : decode cX11_likesMore 14 = .ok (.iconst 3, 1) := by decide +kernel
theorem dX11_likesMore_15 : decode cX11_likesMore 15 = .ok (.iadd, 1) := by decide +kernel
theorem dX11_likesMore_16 : decode cX11_likesMore 16 = .ok (.iconst 0, 1) := by decide +kernel
theorem dX11_likesMore_17 : decode cX11_likesMore 17 = .ok (.invokevirtual 246, 3) := by decide +kernel
theorem dX11_likesMore_20 : decode cX11_likesMore 20 = .ok (.istore 4, 2) := by decide +kernel
theorem dX11_likesMore_22 : decode cX11_likesMore 22 = .ok (.aload_n 0, 1) := by decide +kernel
theorem dX11_likesMore_23 : decode cX11_likesMore 23 = .ok (.getfield 48, 3) := by decide +kernel
theorem dX11_likesMore_26 : decode cX11_likesMore 26 = .ok (.getfield 168, 3) := by decide +kernel
theorem dX11_likesMore_29 : decode cX11_likesMore 29 = .ok (.iload_n 3, 1) := by decide +kernel
theorem dX11_likesMore_30 : decode cX11_likesMore 30 = .ok (.iconst 4, 1) := by decide +kernel
theorem dX11_likesMore_31 : decode cX11_likesMore 31 = .ok (.iload_n 1, 1) := by decide +kernel
theorem dX11_likesMore_32 : decode cX11_likesMore 32 = .ok (.imul, 1) := by decide +kernel
theorem dX11_likesMore_33 : decode cX11_likesMore 33 = .ok (.iconst 4, 1) := by decide +kernel
theorem dX11_likesMore_34 : decode cX11_likesMore 34 = .ok (.iload_n 1, 1) := by decide +kernel
theorem dX11_likesMore_35 : decode cX11_likesMore 35 = .ok (.imul, 1) := by decide +kernel
theorem dX11_likesMore_36 : decode cX11_likesMore 36 = .ok (.iconst 3, 1) := by decide +kernel
theorem dX11_likesMore_37 : decode cX11_likesMore 37 = .ok (.iadd, 1) := by decide +kernel
theorem dX11_likesMore_38 : decode cX11_likesMore 38 = .ok (.iconst 0, 1) := by decide +kernel
theorem dX11_likesMore_39 : decode cX11_likesMore 39 = .ok (.invokevirtual 246, 3) := by decide +kernel
theorem dX11_likesMore_42 : decode cX11_likesMore 42 = .ok (.istore 5, 2) := by decide +kernel
theorem dX11_likesMore_44 : decode cX11_likesMore 44 = .ok (.iload 4, 2) := by decide +kernel
theorem dX11_likesMore_46 : decode cX11_likesMore 46 = .ok (.iload 5, 2) := by decide +kernel
theorem dX11_likesMore_48 : decode cX11_likesMore 48 = .ok (.if_icmp .gt 15, 3) := by decide +kernel
theorem dX11_likesMore_51 : decode cX11_likesMore 51 = .ok (.iload 4, 2) := by decide +kernel
theorem dX11_likesMore_53 : decode cX11_likesMore 53 = .ok (.iload 5, 2) := by decide +kernel
theorem dX11_likesMore_55 : decode cX11_likesMore 55 = .ok (.if_icmp .ne 12, 3) := by decide +kernel
theorem dX11_likesMore_58 : decode cX11_likesMore 58 = .ok (.iload_n 2, 1) := by decide +kernel
theorem dX11_likesMore_59 : decode cX11_likesMore 59 = .ok (.iload_n 3, 1) := by decide +kernel
theorem dX11_likesMore_60 : decode cX11_likesMore 60 = .ok (.if_icmp .ge 7, 3) := by decide +kernel
theorem dX11_likesMore_63 : decode cX11_likesMore 63 = .ok (.iconst 1, 1) := by decide +kernel
theorem dX11_likesMore_64 : decode cX11_likesMore 64 = .ok (.goto 4, 3) := by decide +kernel
theorem dX11_likesMore_67 : decode cX11_likesMore 67 = .ok (.iconst 0, 1) := by decide +kernel
theorem dX11_likesMore_68 : decode cX11_likesMore 68 = .ok (.ireturn, 1) := by decide +kernel
theorem dX11_isInRing_0 : decode cX11_isInRing 0 = .ok (.iload_n 1, 1) := by decide +kernel
theorem dX11_isInRing_1 : decode cX11_isInRing 1 = .ok (.istore_n 3, 1) := by decide +kernel
theorem dX11_isInRing_2 : decode cX11_isInRing 2 = .ok (.iconst 0, 1) := by decide +kernel
theorem dX11_isInRing_3 : decode cX11_isInRing 3 = .ok (.istore 4, 2) := by decide +kernel
theorem dX11_isInRing_5 : decode cX11_isInRing 5 = .ok (.iload 4, 2) := by decide +kernel
theorem dX11_isInRing_7 : decode cX11_isInRing 7 = .ok (.aload_n 2, 1) := by decide +kernel
theorem dX11_isInRing_8 : decode cX11_isInRing 8 = .ok (.arraylength, 1) := by decide +kernel
theorem dX11_isInRing_9 : decode cX11_isInRing 9 = .ok (.if_icmp .ge 20, 3) := by decide +kernel
theorem dX11_isInRing_12 : decode cX11_isInRing 12 = .ok (.aload_n 2, 1) := by decide +kernel
theorem dX11_isInRing_13 : decode cX11_isInRing 13 = .ok (.iload_n 3, 1) := by decide +kernel
theorem dX11_isInRing_14 : decode cX11_isInRing 14 = .ok (.iaload, 1) := by decide +kernel
theorem dX11_isInRing_15 : decode cX11_isInRing 15 = .ok (.istore_n 3, 1) := by decide +kernel
theorem dX11_isInRing_16 : decode cX11_isInRing 16 = .ok (.iload_n 3, 1) := by decide +kernel
theorem dX11_isInRing_17 : decode cX11_isInRing 17 = .ok (.iload_n 1, 1) := by decide +kernel
theorem dX11_isInRing_18 : decode cX11_isInRing 18 = .ok (.if_icmp .ne 5, 3) := by decide +kernel
theorem dX11_isInRing_21 : decode cX11_isInRing 21 = .ok (.iconst 1, 1) := by decide +kernel
theorem dX11_isInRing_22 : decode cX11_isInRing 22 = .ok (.ireturn, 1) := by decide +kernel
theorem dX11_isInRing_23 : decode cX11_isInRing 23 = .ok (.iinc 4 1, 3) := by decide +kernel
theorem dX11_isInRing_26 : decode cX11_isInRing 26 = .ok (.goto (-21), 3) := by decide +kernel
theorem dX11_isInRing_29 : decode cX11_isInRing 29 = .ok (.iconst 0, 1) := by decide +kernel
theorem dX11_isInRing_30 : decode cX11_isInRing 30 = .ok (.ireturn, 1) := by decide +kernel
theorem dX11_yardsWet_0 : decode cX11_yardsWet 0 = .ok (.aload_n 0, 1) := by decide +kernel
theorem dX11_yardsWet_1 : decode cX11_yardsWet 1 = .ok (.getfield 48, 3) := by decide +kernel
theorem dX11_yardsWet_4 : decode cX11_yardsWet 4 = .ok (.invokevirtual 186, 3) := by decide +kernel
theorem dX11_yardsWet_7 : decode cX11_yardsWet 7 = .ok (.istore_n 2, 1) := by decide +kernel
theorem dX11_yardsWet_8 : decode cX11_yardsWet 8 = .ok (.ldc_w 372, 3) := by decide +kernel
theorem dX11_yardsWet_11 : decode cX11_yardsWet 11 = .ok (.istore_n 3, 1) := by decide +kernel
theorem dX11_yardsWet_12 : decode cX11_yardsWet 12 = .ok (.iconst 0, 1) := by decide +kernel
theorem dX11_yardsWet_13 : decode cX11_yardsWet 13 = .ok (.istore 4, 2) := by decide +kernel
theorem dX11_yardsWet_15 : decode cX11_yardsWet 15 = .ok (.iconst 0, 1) := by decide +kernel
theorem dX11_yardsWet_16 : decode cX11_yardsWet 16 = .ok (.istore 5, 2) := by decide +kernel
theorem dX11_yardsWet_18 : decode cX11_yardsWet 18 = .ok (.iload 5, 2) := by decide +kernel
theorem dX11_yardsWet_20 : decode cX11_yardsWet 20 = .ok (.aload_n 0, 1) := by decide +kernel
theorem dX11_yardsWet_21 : decode cX11_yardsWet 21 = .ok (.getfield 48, 3) := by decide +kernel
theorem dX11_yardsWet_24 : decode cX11_yardsWet 24 = .ok (.getfield 168, 3) := by decide +kernel
theorem dX11_yardsWet_27 : decode cX11_yardsWet 27 = .ok (.getfield 172, 3) := by decide +kernel
theorem dX11_yardsWet_30 : decode cX11_yardsWet 30 = .ok (.if_icmp .ge 67, 3) := by decide +kernel
theorem dX11_yardsWet_33 : decode cX11_yardsWet 33 = .ok (.aload_n 0, 1) := by decide +kernel
theorem dX11_yardsWet_34 : decode cX11_yardsWet 34 = .ok (.iload_n 2, 1) := by decide +kernel
theorem dX11_yardsWet_35 : decode cX11_yardsWet 35 = .ok (.invokevirtual 264, 3) := by decide +kernel
theorem dX11_yardsWet_38 : decode cX11_yardsWet 38 = .ok (.istore 6, 2) := by decide +kernel
theorem dX11_yardsWet_40 : decode cX11_yardsWet 40 = .ok (.iload 6, 2) := by decide +kernel
theorem dX11_yardsWet_42 : decode cX11_yardsWet 42 = .ok (.ifCond .ge 6, 3) := by decide +kernel
theorem dX11_yardsWet_45 : decode cX11_yardsWet 45 = .ok (.goto 52, 3) := by decide +kernel
theorem dX11_yardsWet_48 : decode cX11_yardsWet 48 = .ok (.iload 4, 2) := by decide +kernel
theorem dX11_yardsWet_50 : decode cX11_yardsWet 50 = .ok (.aload_n 0, 1) := by decide +kernel
theorem dX11_yardsWet_51 : decode cX11_yardsWet 51 = .ok (.getfield 48, 3) := by decide +kernel
theorem dX11_yardsWet_54 : decode cX11_yardsWet 54 = .ok (.getfield 168, 3) := by decide +kernel
theorem dX11_yardsWet_57 : decode cX11_yardsWet 57 = .ok (.getfield 209, 3) := by decide +kernel
theorem dX11_yardsWet_60 : decode cX11_yardsWet 60 = .ok (.iload 6, 2) := by decide +kernel
theorem dX11_yardsWet_62 : decode cX11_yardsWet 62 = .ok (.iaload, 1) := by decide +kernel
theorem dX11_yardsWet_63 : decode cX11_yardsWet 63 = .ok (.ldc_w 372, 3) := by decide +kernel
theorem dX11_yardsWet_66 : decode cX11_yardsWet 66 = .ok (.iload_n 3, 1) := by decide +kernel
theorem dX11_yardsWet_67 : decode cX11_yardsWet 67 = .ok (.isub, 1) := by decide +kernel
theorem dX11_yardsWet_68 : decode cX11_yardsWet 68 = .ok (.imul, 1) := by decide +kernel
theorem dX11_yardsWet_69 : decode cX11_yardsWet 69 = .ok (.iadd, 1) := by decide +kernel
theorem dX11_yardsWet_70 : decode cX11_yardsWet 70 = .ok (.istore 4, 2) := by decide +kernel
theorem dX11_yardsWet_72 : decode cX11_yardsWet 72 = .ok (.iload_n 3, 1) := by decide +kernel
theorem dX11_yardsWet_73 : decode cX11_yardsWet 73 = .ok (.bipush 100, 2) := by decide +kernel
theorem dX11_yardsWet_75 : decode cX11_yardsWet 75 = .ok (.iload_n 1, 1) := by decide +kernel
theorem dX11_yardsWet_76 : decode cX11_yardsWet 76 = .ok (.isub, 1) := by decide +kernel
theorem dX11_yardsWet_77 : decode cX11_yardsWet 77 = .ok (.imul, 1) := by decide +kernel
theorem dX11_yardsWet_78 : decode cX11_yardsWet 78 = .ok (.bipush 100, 2) := by decide +kernel
theorem dX11_yardsWet_80 : decode cX11_yardsWet 80 = .ok (.idiv, 1) := by decide +kernel
theorem dX11_yardsWet_81 : decode cX11_yardsWet 81 = .ok (.istore_n 3, 1) := by decide +kernel
theorem dX11_yardsWet_82 : decode cX11_yardsWet 82 = .ok (.iload_n 2, 1) := by decide +kernel
theorem dX11_yardsWet_83 : decode cX11_yardsWet 83 = .ok (.iconst 1, 1) := by decide +kernel
theorem dX11_yardsWet_84 : decode cX11_yardsWet 84 = .ok (.iload 6, 2) := by decide +kernel
theorem dX11_yardsWet_86 : decode cX11_yardsWet 86 = .ok (.ishl, 1) := by decide +kernel
theorem dX11_yardsWet_87 : decode cX11_yardsWet 87 = .ok (.iconst (-1), 1) := by decide +kernel
theorem dX11_yardsWet_88 : decode cX11_yardsWet 88 = .ok (.ixor, 1) := by decide +kernel
theorem dX11_yardsWet_89 : decode cX11_yardsWet 89 = .ok (.iand, 1) := by decide +kernel
theorem dX11_yardsWet_90 : decode cX11_yardsWet 90 = .ok (.istore_n 2, 1) := by decide +kernel
theorem dX11_yardsWet_91 : decode cX11_yardsWet 91 = .ok (.iinc 5 1, 3) := by decide +kernel
theorem dX11_yardsWet_94 : decode cX11_yardsWet 94 = .ok (.goto (-76), 3) := by decide +kernel
theorem dX11_yardsWet_97 : decode cX11_yardsWet 97 = .ok (.iload 4, 2) := by decide +kernel
theorem dX11_yardsWet_99 : decode cX11_yardsWet 99 = .ok (.ireturn, 1) := by decide +kernel
theorem dX11_takenNext_0 : decode cX11_takenNext 0 = .ok (.iconst (-1), 1) := by decide +kernel
theorem dX11_takenNext_1 : decode cX11_takenNext 1 = .ok (.istore_n 2, 1) := by decide +kernel
theorem dX11_takenNext_2 : decode cX11_takenNext 2 = .ok (.iconst 0, 1) := by decide +kernel
theorem dX11_takenNext_3 : decode cX11_takenNext 3 = .ok (.istore_n 3, 1) := by decide +kernel
theorem dX11_takenNext_4 : decode cX11_takenNext 4 = .ok (.iconst 0, 1) := by decide +kernel
theorem dX11_takenNext_5 : decode cX11_takenNext 5 = .ok (.istore 4, 2) := by decide +kernel
theorem dX11_takenNext_7 : decode cX11_takenNext 7 = .ok (.iload 4, 2) := by decide +kernel
theorem dX11_takenNext_9 : decode cX11_takenNext 9 = .ok (.aload_n 0, 1) := by decide +kernel
theorem dX11_takenNext_10 : decode cX11_takenNext 10 = .ok (.getfield 48, 3) := by decide +kernel
theorem dX11_takenNext_13 : decode cX11_takenNext 13 = .ok (.getfield 168, 3) := by decide +kernel
theorem dX11_takenNext_16 : decode cX11_takenNext 16 = .ok (.getfield 172, 3) := by decide +kernel
theorem dX11_takenNext_19 : decode cX11_takenNext 19 = .ok (.if_icmp .ge 52, 3) := by decide +kernel
theorem dX11_takenNext_22 : decode cX11_takenNext 22 = .ok (.iload_n 1, 1) := by decide +kernel
theorem dX11_takenNext_23 : decode cX11_takenNext 23 = .ok (.iload 4, 2) := by decide +kernel
theorem dX11_takenNext_25 : decode cX11_takenNext 25 = .ok (.ishr, 1) := by decide +kernel
theorem dX11_takenNext_26 : decode cX11_takenNext 26 = .ok (.iconst 1, 1) := by decide +kernel
theorem dX11_takenNext_27 : decode cX11_takenNext 27 = .ok (.iand, 1) := by decide +kernel
theorem dX11_takenNext_28 : decode cX11_takenNext 28 = .ok (.ifCond .eq 37, 3) := by decide +kernel
theorem dX11_takenNext_31 : decode cX11_takenNext 31 = .ok (.aload_n 0, 1) := by decide +kernel
theorem dX11_takenNext_32 : decode cX11_takenNext 32 = .ok (.getfield 48, 3) := by decide +kernel
theorem dX11_takenNext_35 : decode cX11_takenNext 35 = .ok (.getfield 168, 3) := by decide +kernel
theorem dX11_takenNext_38 : decode cX11_takenNext 38 = .ok (.getfield 209, 3) := by decide +kernel
theorem dX11_takenNext_41 : decode cX11_takenNext 41 = .ok (.iload 4, 2) := by decide +kernel
theorem dX11_takenNext_43 : decode cX11_takenNext 43 = .ok (.iaload, 1) := by decide +kernel
theorem dX11_takenNext_44 : decode cX11_takenNext 44 = .ok (.iload_n 3, 1) := by decide +kernel
theorem dX11_takenNext_45 : decode cX11_takenNext 45 = .ok (.if_icmp .le 20, 3) := by decide +kernel
theorem dX11_takenNext_48 : decode cX11_takenNext 48 = .ok (.iload 4, 2) := by decide +kernel
theorem dX11_takenNext_50 : decode cX11_takenNext 50 = .ok (.istore_n 2, 1) := by decide +kernel
theorem dX11_takenNext_51 : decode cX11_takenNext 51 = .ok (.aload_n 0, 1) := by decide +kernel
theorem dX11_takenNext_52 : decode cX11_takenNext 52 = .ok (.getfield 48, 3) := by decide +kernel
theorem dX11_takenNext_55 : decode cX11_takenNext 55 = .ok (.getfield 168, 3) := by decide +kernel
theorem dX11_takenNext_58 : decode cX11_takenNext 58 = .ok (.getfield 209, 3) := by decide +kernel
theorem dX11_takenNext_61 : decode cX11_takenNext 61 = .ok (.iload 4, 2) := by decide +kernel
theorem dX11_takenNext_63 : decode cX11_takenNext 63 = .ok (.iaload, 1) := by decide +kernel
theorem dX11_takenNext_64 : decode cX11_takenNext 64 = .ok (.istore_n 3, 1) := by decide +kernel
theorem dX11_takenNext_65 : decode cX11_takenNext 65 = .ok (.iinc 4 1, 3) := by decide +kernel
theorem dX11_takenNext_68 : decode cX11_takenNext 68 = .ok (.goto (-61), 3) := by decide +kernel
theorem dX11_takenNext_71 : decode cX11_takenNext 71 = .ok (.iload_n 2, 1) := by decide +kernel
theorem dX11_takenNext_72 : decode cX11_takenNext 72 = .ok (.ireturn, 1) := by decide +kernel
theorem dX11_pieceAsked_0 : decode cX11_pieceAsked 0 = .ok (.aload_n 0, 1) := by decide +kernel
theorem dX11_pieceAsked_1 : decode cX11_pieceAsked 1 = .ok (.getfield 48, 3) := by decide +kernel
theorem dX11_pieceAsked_4 : decode cX11_pieceAsked 4 = .ok (.getfield 195, 3) := by decide +kernel
theorem dX11_pieceAsked_7 : decode cX11_pieceAsked 7 = .ok (.iload_n 1, 1) := by decide +kernel
theorem dX11_pieceAsked_8 : decode cX11_pieceAsked 8 = .ok (.iaload, 1) := by decide +kernel
theorem dX11_pieceAsked_9 : decode cX11_pieceAsked 9 = .ok (.istore_n 2, 1) := by decide +kernel
theorem dX11_pieceAsked_10 : decode cX11_pieceAsked 10 = .ok (.aload_n 0, 1) := by decide +kernel
theorem dX11_pieceAsked_11 : decode cX11_pieceAsked 11 = .ok (.getfield 48, 3) := by decide +kernel
theorem dX11_pieceAsked_14 : decode cX11_pieceAsked 14 = .ok (.getfield 168, 3) := by decide +kernel
theorem dX11_pieceAsked_17 : decode cX11_pieceAsked 17 = .ok (.getfield 209, 3) := by decide +kernel
theorem dX11_pieceAsked_20 : decode cX11_pieceAsked 20 = .ok (.iload_n 1, 1) := by decide +kernel
theorem dX11_pieceAsked_21 : decode cX11_pieceAsked 21 = .ok (.iaload, 1) := by decide +kernel
theorem dX11_pieceAsked_22 : decode cX11_pieceAsked 22 = .ok (.istore_n 3, 1) := by decide +kernel
theorem dX11_pieceAsked_23 : decode cX11_pieceAsked 23 = .ok (.aload_n 0, 1) := by decide +kernel
theorem dX11_pieceAsked_24 : decode cX11_pieceAsked 24 = .ok (.getfield 48, 3) := by decide +kernel
theorem dX11_pieceAsked_27 : decode cX11_pieceAsked 27 = .ok (.getfield 168, 3) := by decide +kernel
theorem dX11_pieceAsked_30 : decode cX11_pieceAsked 30 = .ok (.getfield 274, 3) := by decide +kernel
theorem dX11_pieceAsked_33 : decode cX11_pieceAsked 33 = .ok (.iload_n 1, 1) := by decide +kernel
theorem dX11_pieceAsked_34 : decode cX11_pieceAsked 34 = .ok (.iaload, 1) := by decide +kernel
theorem dX11_pieceAsked_35 : decode cX11_pieceAsked 35 = .ok (.tableswitch 89 1 4 #[29, 44, 59, 74], 29) := by decide +kernel
theorem dX11_pieceAsked_64 : decode cX11_pieceAsked 64 = .ok (.new 373, 3) := by decide +kernel
theorem dX11_pieceAsked_67 : decode cX11_pieceAsked 67 = .ok (.dup, 1) := by decide +kernel
theorem dX11_pieceAsked_68 : decode cX11_pieceAsked 68 = .ok (.iload_n 1, 1) := by decide +kernel
theorem dX11_pieceAsked_69 : decode cX11_pieceAsked 69 = .ok (.iload_n 2, 1) := by decide +kernel
theorem dX11_pieceAsked_70 : decode cX11_pieceAsked 70 = .ok (.iload_n 3, 1) := by decide +kernel
theorem dX11_pieceAsked_71 : decode cX11_pieceAsked 71 = .ok (.aload_n 0, 1) := by decide +kernel
theorem dX11_pieceAsked_72 : decode cX11_pieceAsked 72 = .ok (.getfield 26, 3) := by decide +kernel
theorem dX11_pieceAsked_75 : decode cX11_pieceAsked 75 = .ok (.invokespecial 375, 3) := by decide +kernel
theorem dX11_pieceAsked_78 : decode cX11_pieceAsked 78 = .ok (.areturn, 1) := by decide +kernel
theorem dX11_pieceAsked_79 : decode cX11_pieceAsked 79 = .ok (.new 378, 3) := by decide +kernel
theorem dX11_pieceAsked_82 : decode cX11_pieceAsked 82 = .ok (.dup, 1) := by decide +kernel
theorem dX11_pieceAsked_83 : decode cX11_pieceAsked 83 = .ok (.iload_n 1, 1) := by decide +kernel
theorem dX11_pieceAsked_84 : decode cX11_pieceAsked 84 = .ok (.iload_n 2, 1) := by decide +kernel
theorem dX11_pieceAsked_85 : decode cX11_pieceAsked 85 = .ok (.iload_n 3, 1) := by decide +kernel
theorem dX11_pieceAsked_86 : decode cX11_pieceAsked 86 = .ok (.aload_n 0, 1) := by decide +kernel
theorem dX11_pieceAsked_87 : decode cX11_pieceAsked 87 = .ok (.getfield 26, 3) := by decide +kernel
theorem dX11_pieceAsked_90 : decode cX11_pieceAsked 90 = .ok (.invokespecial 380, 3) := by decide +kernel
theorem dX11_pieceAsked_93 : decode cX11_pieceAsked 93 = .ok (.areturn, 1) := by decide +kernel
theorem dX11_pieceAsked_94 : decode cX11_pieceAsked 94 = .ok (.new 381, 3) := by decide +kernel
theorem dX11_pieceAsked_97 : decode cX11_pieceAsked 97 = .ok (.dup, 1) := by decide +kernel
theorem dX11_pieceAsked_98 : decode cX11_pieceAsked 98 = .ok (.iload_n 1, 1) := by decide +kernel
theorem dX11_pieceAsked_99 : decode cX11_pieceAsked 99 = .ok (.iload_n 2, 1) := by decide +kernel
theorem dX11_pieceAsked_100 : decode cX11_pieceAsked 100 = .ok (.iload_n 3, 1) := by decide +kernel
theorem dX11_pieceAsked_101 : decode cX11_pieceAsked 101 = .ok (.aload_n 0, 1) := by decide +kernel
theorem dX11_pieceAsked_102 : decode cX11_pieceAsked 102 = .ok (.getfield 26, 3) := by decide +kernel
theorem dX11_pieceAsked_105 : decode cX11_pieceAsked 105 = .ok (.invokespecial 383, 3) := by decide +kernel
theorem dX11_pieceAsked_108 : decode cX11_pieceAsked 108 = .ok (.areturn, 1) := by decide +kernel
theorem dX11_pieceAsked_109 : decode cX11_pieceAsked 109 = .ok (.new 384, 3) := by decide +kernel
theorem dX11_pieceAsked_112 : decode cX11_pieceAsked 112 = .ok (.dup, 1) := by decide +kernel
theorem dX11_pieceAsked_113 : decode cX11_pieceAsked 113 = .ok (.iload_n 1, 1) := by decide +kernel
theorem dX11_pieceAsked_114 : decode cX11_pieceAsked 114 = .ok (.iload_n 2, 1) := by decide +kernel
theorem dX11_pieceAsked_115 : decode cX11_pieceAsked 115 = .ok (.iload_n 3, 1) := by decide +kernel
theorem dX11_pieceAsked_116 : decode cX11_pieceAsked 116 = .ok (.aload_n 0, 1) := by decide +kernel
theorem dX11_pieceAsked_117 : decode cX11_pieceAsked 117 = .ok (.getfield 26, 3) := by decide +kernel
theorem dX11_pieceAsked_120 : decode cX11_pieceAsked 120 = .ok (.invokespecial 386, 3) := by decide +kernel
theorem dX11_pieceAsked_123 : decode cX11_pieceAsked 123 = .ok (.areturn, 1) := by decide +kernel
theorem dX11_pieceAsked_124 : decode cX11_pieceAsked 124 = .ok (.new 387, 3) := by decide +kernel
theorem dX11_pieceAsked_127 : decode cX11_pieceAsked 127 = .ok (.dup, 1) := by decide +kernel
theorem dX11_pieceAsked_128 : decode cX11_pieceAsked 128 = .ok (.iload_n 1, 1) := by decide +kernel
theorem dX11_pieceAsked_129 : decode cX11_pieceAsked 129 = .ok (.iload_n 2, 1) := by decide +kernel
theorem dX11_pieceAsked_130 : decode cX11_pieceAsked 130 = .ok (.iload_n 3, 1) := by decide +kernel
theorem dX11_pieceAsked_131 : decode cX11_pieceAsked 131 = .ok (.aload_n 0, 1) := by decide +kernel
theorem dX11_pieceAsked_132 : decode cX11_pieceAsked 132 = .ok (.getfield 26, 3) := by decide +kernel
theorem dX11_pieceAsked_135 : decode cX11_pieceAsked 135 = .ok (.invokespecial 389, 3) := by decide +kernel
theorem dX11_pieceAsked_138 : decode cX11_pieceAsked 138 = .ok (.areturn, 1) := by decide +kernel
theorem dX11_isOfKind_0 : decode cX11_isOfKind 0 = .ok (.iload_n 1, 1) := by decide +kernel
theorem dX11_isOfKind_1 : decode cX11_isOfKind 1 = .ok (.tableswitch 60 1 5 #[35, 40, 45, 50, 55], 35) := by decide +kernel
theorem dX11_isOfKind_36 : decode cX11_isOfKind 36 = .ok (.aload_n 0, 1) := by decide +kernel
theorem dX11_isOfKind_37 : decode cX11_isOfKind 37 = .ok (.instanceof 373, 3) := by decide +kernel
theorem dX11_isOfKind_40 : decode cX11_isOfKind 40 = .ok (.ireturn, 1) := by decide +kernel
theorem dX11_isOfKind_41 : decode cX11_isOfKind 41 = .ok (.aload_n 0, 1) := by decide +kernel
theorem dX11_isOfKind_42 : decode cX11_isOfKind 42 = .ok (.instanceof 378, 3) := by decide +kernel
theorem dX11_isOfKind_45 : decode cX11_isOfKind 45 = .ok (.ireturn, 1) := by decide +kernel
theorem dX11_isOfKind_46 : decode cX11_isOfKind 46 = .ok (.aload_n 0, 1) := by decide +kernel
theorem dX11_isOfKind_47 : decode cX11_isOfKind 47 = .ok (.instanceof 381, 3) := by decide +kernel
theorem dX11_isOfKind_50 : decode cX11_isOfKind 50 = .ok (.ireturn, 1) := by decide +kernel
theorem dX11_isOfKind_51 : decode cX11_isOfKind 51 = .ok (.aload_n 0, 1) := by decide +kernel
theorem dX11_isOfKind_52 : decode cX11_isOfKind 52 = .ok (.instanceof 384, 3) := by decide +kernel
theorem dX11_isOfKind_55 : decode cX11_isOfKind 55 = .ok (.ireturn, 1) := by decide +kernel
theorem dX11_isOfKind_56 : decode cX11_isOfKind 56 = .ok (.aload_n 0, 1) := by decide +kernel
theorem dX11_isOfKind_57 : decode cX11_isOfKind 57 = .ok (.instanceof 387, 3) := by decide +kernel
theorem dX11_isOfKind_60 : decode cX11_isOfKind 60 = .ok (.ireturn, 1) := by decide +kernel
theorem dX11_isOfKind_61 : decode cX11_isOfKind 61 = .ok (.iconst 1, 1) := by decide +kernel
theorem dX11_isOfKind_62 : decode cX11_isOfKind 62 = .ok (.ireturn, 1) := by decide +kernel
theorem dX12_init_0 : decode cX12_init 0 = .ok (.aload_n 0, 1) := by decide +kernel
theorem dX12_init_1 : decode cX12_init 1 = .ok (.invokespecial 1, 3) := by decide +kernel
theorem dX12_init_4 : decode cX12_init 4 = .ok (.aload_n 0, 1) := by decide +kernel
theorem dX12_init_5 : decode cX12_init 5 = .ok (.bipush 8, 2) := by decide +kernel
theorem dX12_init_7 : decode cX12_init 7 = .ok (.newarray .int, 2) := by decide +kernel
theorem dX12_init_9 : decode cX12_init 9 = .ok (.dup, 1) := by decide +kernel
theorem dX12_init_10 : decode cX12_init 10 = .ok (.iconst 0, 1) := by decide +kernel
theorem dX12_init_11 : decode cX12_init 11 = .ok (.iconst (-1), 1) := by decide +kernel
theorem dX12_init_12 : decode cX12_init 12 = .ok (.iastore, 1) := by decide +kernel
theorem dX12_init_13 : decode cX12_init 13 = .ok (.dup, 1) := by decide +kernel
theorem dX12_init_14 : decode cX12_init 14 = .ok (.iconst 1, 1) := by decide +kernel
theorem dX12_init_15 : decode cX12_init 15 = .ok (.iconst (-1), 1) := by decide +kernel
theorem dX12_init_16 : decode cX12_init 16 = .ok (.iastore, 1) := by decide +kernel
theorem dX12_init_17 : decode cX12_init 17 = .ok (.dup, 1) := by decide +kernel
theorem dX12_init_18 : decode cX12_init 18 = .ok (.iconst 2, 1) := by decide +kernel
theorem dX12_init_19 : decode cX12_init 19 = .ok (.iconst (-1), 1) := by decide +kernel
theorem dX12_init_20 : decode cX12_init 20 = .ok (.iastore, 1) := by decide +kernel
theorem dX12_init_21 : decode cX12_init 21 = .ok (.dup, 1) := by decide +kernel
theorem dX12_init_22 : decode cX12_init 22 = .ok (.iconst 3, 1) := by decide +kernel
theorem dX12_init_23 : decode cX12_init 23 = .ok (.iconst (-1), 1) := by decide +kernel
theorem dX12_init_24 : decode cX12_init 24 = .ok (.iastore, 1) := by decide +kernel
theorem dX12_init_25 : decode cX12_init 25 = .ok (.dup, 1) := by decide +kernel
theorem dX12_init_26 : decode cX12_init 26 = .ok (.iconst 4, 1) := by decide +kernel
theorem dX12_init_27 : decode cX12_init 27 = .ok (.iconst (-1), 1) := by decide +kernel
theorem dX12_init_28 : decode cX12_init 28 = .ok (.iastore, 1) := by decide +kernel
theorem dX12_init_29 : decode cX12_init 29 = .ok (.dup, 1) := by decide +kernel
theorem dX12_init_30 : decode cX12_init 30 = .ok (.iconst 5, 1) := by decide +kernel
theorem dX12_init_31 : decode cX12_init 31 = .ok (.iconst (-1), 1) := by decide +kernel
theorem dX12_init_32 : decode cX12_init 32 = .ok (.iastore, 1) := by decide +kernel
theorem dX12_init_33 : decode cX12_init 33 = .ok (.dup, 1) := by decide +kernel
theorem dX12_init_34 : decode cX12_init 34 = .ok (.bipush 6, 2) := by decide +kernel
theorem dX12_init_36 : decode cX12_init 36 = .ok (.iconst (-1), 1) := by decide +kernel
theorem dX12_init_37 : decode cX12_init 37 = .ok (.iastore, 1) := by decide +kernel
theorem dX12_init_38 : decode cX12_init 38 = .ok (.dup, 1) := by decide +kernel
theorem dX12_init_39 : decode cX12_init 39 = .ok (.bipush 7, 2) := by decide +kernel
theorem dX12_init_41 : decode cX12_init 41 = .ok (.iconst (-1), 1) := by decide +kernel
theorem dX12_init_42 : decode cX12_init 42 = .ok (.iastore, 1) := by decide +kernel
theorem dX12_init_43 : decode cX12_init 43 = .ok (.putfield 7, 3) := by decide +kernel
theorem dX12_init_46 : decode cX12_init 46 = .ok (.aload_n 0, 1) := by decide +kernel
theorem dX12_init_47 : decode cX12_init 47 = .ok (.bipush 8, 2) := by decide +kernel
theorem dX12_init_49 : decode cX12_init 49 = .ok (.newarray .int, 2) := by decide +kernel
theorem dX12_init_51 : decode cX12_init 51 = .ok (.putfield 13, 3) := by decide +kernel
theorem dX12_init_54 : decode cX12_init 54 = .ok (.aload_n 0, 1) := by decide +kernel
theorem dX12_init_55 : decode cX12_init 55 = .ok (.sipush 320, 3) := by decide +kernel
theorem dX12_init_58 : decode cX12_init 58 = .ok (.newarray .int, 2) := by decide +kernel
theorem dX12_init_60 : decode cX12_init 60 = .ok (.putfield 16, 3) := by decide +kernel
theorem dX12_init_63 : decode cX12_init 63 = .ok (.aload_n 0, 1) := by decide +kernel
theorem dX12_init_64 : decode cX12_init 64 = .ok (.sipush 144, 3) := by decide +kernel
theorem dX12_init_67 : decode cX12_init 67 = .ok (.newarray .int, 2) := by decide +kernel
theorem dX12_init_69 : decode cX12_init 69 = .ok (.putfield 19, 3) := by decide +kernel
theorem dX12_init_72 : decode cX12_init 72 = .ok (.aload_n 0, 1) := by decide +kernel
theorem dX12_init_73 : decode cX12_init 73 = .ok (.sipush 144, 3) := by decide +kernel
theorem dX12_init_76 : decode cX12_init 76 = .ok (.newarray .int, 2) := by decide +kernel
theorem dX12_init_78 : decode cX12_init 78 = .ok (.putfield 22, 3) := by decide +kernel
theorem dX12_init_81 : decode cX12_init 81 = .ok (.aload_n 0, 1) := by decide +kernel
theorem dX12_init_82 : decode cX12_init 82 = .ok (.sipush 500, 3) := by decide +kernel
theorem dX12_init_85 : decode cX12_init 85 = .ok (.newarray .int, 2) := by decide +kernel
theorem dX12_init_87 : decode cX12_init 87 = .ok (.putfield 25, 3) := by decide +kernel
theorem dX12_init_90 : decode cX12_init 90 = .ok (.aload_n 0, 1) := by decide +kernel
theorem dX12_init_91 : decode cX12_init 91 = .ok (.bipush 10, 2) := by decide +kernel
theorem dX12_init_93 : decode cX12_init 93 = .ok (.newarray .int, 2) := by decide +kernel
theorem dX12_init_95 : decode cX12_init 95 = .ok (.putfield 28, 3) := by decide +kernel
theorem dX12_init_98 : decode cX12_init 98 = .ok (.aload_n 0, 1) := by decide +kernel
theorem dX12_init_99 : decode cX12_init 99 = .ok (.bipush 10, 2) := by decide +kernel
theorem dX12_init_101 : decode cX12_init 101 = .ok (.newarray .int, 2) := by decide +kernel
theorem dX12_init_103 : decode cX12_init 103 = .ok (.putfield 31, 3) := by decide +kernel
theorem dX12_init_106 : decode cX12_init 106 = .ok (.aload_n 0, 1) := by decide +kernel
theorem dX12_init_107 : decode cX12_init 107 = .ok (.bipush 6, 2) := by decide +kernel
theorem dX12_init_109 : decode cX12_init 109 = .ok (.newarray .int, 2) := by decide +kernel
theorem dX12_init_111 : decode cX12_init 111 = .ok (.putfield 34, 3) := by decide +kernel
theorem dX12_init_114 : decode cX12_init 114 = .ok (.aload_n 0, 1) := by decide +kernel
theorem dX12_init_115 : decode cX12_init 115 = .ok (.bipush 6, 2) := by decide +kernel
theorem dX12_init_117 : decode cX12_init 117 = .ok (.newarray .int, 2) := by decide +kernel
theorem dX12_init_119 : decode cX12_init 119 = .ok (.putfield 37, 3) := by decide +kernel
theorem dX12_init_122 : decode cX12_init 122 = .ok (.aload_n 0, 1) := by decide +kernel
theorem dX12_init_123 : decode cX12_init 123 = .ok (.bipush 6, 2) := by decide +kernel
theorem dX12_init_125 : decode cX12_init 125 = .ok (.newarray .int, 2) := by decide +kernel
theorem dX12_init_127 : decode cX12_init 127 = .ok (.putfield 40, 3) := by decide +kernel
theorem dX12_init_130 : decode cX12_init 130 = .ok (.aload_n 0, 1) := by decide +kernel
theorem dX12_init_131 : decode cX12_init 131 = .ok (.iconst 2, 1) := by decide +kernel
theorem dX12_init_132 : decode cX12_init 132 = .ok (.newarray .boolean, 2) := by decide +kernel
theorem dX12_init_134 : decode cX12_init 134 = .ok (.putfield 43, 3) := by decide +kernel
theorem dX12_init_137 : decode cX12_init 137 = .ok (.aload_n 0, 1) := by decide +kernel
theorem dX12_init_138 : decode cX12_init 138 = .ok (.sipush 288, 3) := by decide +kernel
theorem dX12_init_141 : decode cX12_init 141 = .ok (.newarray .int, 2) := by decide +kernel
theorem dX12_init_143 : decode cX12_init 143 = .ok (.putfield 47, 3) := by decide +kernel
theorem dX12_init_146 : decode cX12_init 146 = .ok (.aload_n 0, 1) := by decide +kernel
theorem dX12_init_147 : decode cX12_init 147 = .ok (.bipush 16, 2) := by decide +kernel
theorem dX12_init_149 : decode cX12_init 149 = .ok (.newarray .int, 2) := by decide +kernel
theorem dX12_init_151 : decode cX12_init 151 = .ok (.putfield 50, 3) := by decide +kernel
theorem dX12_init_154 : decode cX12_init 154 = .ok (.return_, 1) := by decide +kernel
theorem dX12_in_0 : decode cX12_in 0 = .ok (.lload_n 0, 1) := by decide +kernel
theorem dX12_in_1 : decode cX12_in 1 = .ok (.lload_n 2, 1) := by decide +kernel
theorem dX12_in_2 : decode cX12_in 2 = .ok (.lcmp, 1) := by decide +kernel
theorem dX12_in_3 : decode cX12_in 3 = .ok (.ifCond .lt 14, 3) := by decide +kernel
theorem dX12_in_6 : decode cX12_in 6 = .ok (.lload_n 0, 1) := by decide +kernel
theorem dX12_in_7 : decode cX12_in 7 = .ok (.lload 4, 2) := by decide +kernel
theorem dX12_in_9 : decode cX12_in 9 = .ok (.lcmp, 1) := by decide +kernel
theorem dX12_in_10 : decode cX12_in 10 = .ok (.ifCond .gt 7, 3) := by decide +kernel
theorem dX12_in_13 : decode cX12_in 13 = .ok (.iconst 1, 1) := by decide +kernel
theorem dX12_in_14 : decode cX12_in 14 = .ok (.goto 4, 3) := by decide +kernel
theorem dX12_in_17 : decode cX12_in 17 = .ok (.iconst 0, 1) := by decide +kernel
theorem dX12_in_18 : decode cX12_in 18 = .ok (.ireturn, 1) := by decide +kernel
theorem dX12_finding_0 : decode cX12_finding 0 = .ok (.aload_n 0, 1) := by decide +kernel
theorem dX12_finding_1 : decode cX12_finding 1 = .ok (.iload_n 1, 1) := by decide +kernel
theorem dX12_finding_2 : decode cX12_finding 2 = .ok (.putfield 57, 3) := by decide +kernel
theorem dX12_finding_5 : decode cX12_finding 5 = .ok (.ldc 60, 2) := by decide +kernel
theorem dX12_finding_7 : decode cX12_finding 7 = .ok (.iload_n 1, 1) := by decide +kernel
theorem dX12_finding_8 : decode cX12_finding 8 = .ok (.isub, 1) := by decide +kernel
theorem dX12_finding_9 : decode cX12_finding 9 = .ok (.ireturn, 1) := by decide +kernel
theorem dX12_isRow_0 : decode cX12_isRow 0 = .ok (.iload_n 0, 1) := by decide +kernel
theorem dX12_isRow_1 : decode cX12_isRow 1 = .ok (.i2l, 1) := by decide +kernel
theorem dX12_isRow_2 : decode cX12_isRow 2 = .ok (.lconst 0, 1) := by decide +kernel
theorem dX12_isRow_3 : decode cX12_isRow 3 = .ok (.ldc2_w 61, 3) := by decide +kernel
theorem dX12_isRow_6 : decode cX12_isRow 6 = .ok (.invokestatic 63, 3) := by decide +kernel
theorem dX12_isRow_9 : decode cX12_isRow 9 = .ok (.ireturn, 1) := by decide +kernel
theorem dX12_row_0 : decode cX12_row 0 = .ok (.aload_n 0, 1) := by decide +kernel
theorem dX12_row_1 : decode cX12_row 1 = .ok (.iconst 0, 1) := by decide +kernel
theorem dX12_row_2 : decode cX12_row 2 = .ok (.putfield 53, 3) := by decide +kernel
theorem dX12_row_5 : decode cX12_row 5 = .ok (.iload_n 1, 1) := by decide +kernel
theorem dX12_row_6 : decode cX12_row 6 = .ok (.invokestatic 67, 3) := by decide +kernel
theorem dX12_row_9 : decode cX12_row 9 = .ok (.ifCond .eq 21, 3) := by decide +kernel
theorem dX12_row_12 : decode cX12_row 12 = .ok (.iload_n 2, 1) := by decide +kernel
theorem dX12_row_13 : decode cX12_row 13 = .ok (.i2l, 1) := by decide +kernel
theorem dX12_row_14 : decode cX12_row 14 = .ok (.lconst 0, 1) := by decide +kernel
theorem dX12_row_15 : decode cX12_row 15 = .ok (.ldc2_w 71, 3) := by decide +kernel
theorem dX12_row_18 : decode cX12_row 18 = .ok (.invokestatic 63, 3) := by decide +kernel
theorem dX12_row_21 : decode cX12_row 21 = .ok (.ifCond .eq 9, 3) := by decide +kernel
theorem dX12_row_24 : decode cX12_row 24 = .ok (.iload_n 3, 1) := by decide +kernel
theorem dX12_row_25 : decode cX12_row 25 = .ok (.bipush 40, 2) := by decide +kernel
theorem dX12_row_27 : decode cX12_row 27 = .ok (.if_icmp .le 6, 3) := by decide +kernel
theorem dX12_row_30 : decode cX12_row 30 = .ok (.ldc 73, 2) := by decide +kernel
theorem dX12_row_32 : decode cX12_row 32 = .ok (.ireturn, 1) := by decide +kernel
theorem dX12_row_33 : decode cX12_row 33 = .ok (.aload_n 0, 1) := by decide +kernel
theorem dX12_row_34 : decode cX12_row 34 = .ok (.iconst 0, 1) := by decide +kernel
theorem dX12_row_35 : decode cX12_row 35 = .ok (.putfield 57, 3) := by decide +kernel
theorem dX12_row_38 : decode cX12_row 38 = .ok (.iload_n 3, 1) := by decide +kernel
theorem dX12_row_39 : decode cX12_row 39 = .ok (.ifCond .ge 9, 3) := by decide +kernel
theorem dX12_row_42 : decode cX12_row 42 = .ok (.aload_n 0, 1) := by decide +kernel
theorem dX12_row_43 : decode cX12_row 43 = .ok (.iconst 4, 1) := by decide +kernel
theorem dX12_row_44 : decode cX12_row 44 = .ok (.invokevirtual 74, 3) := by decide +kernel
theorem dX12_row_47 : decode cX12_row 47 = .ok (.ireturn, 1) := by decide +kernel
theorem dX12_row_48 : decode cX12_row 48 = .ok (.aload_n 0, 1) := by decide +kernel
theorem dX12_row_49 : decode cX12_row 49 = .ok (.getfield 7, 3) := by decide +kernel
theorem dX12_row_52 : decode cX12_row 52 = .ok (.iload_n 1, 1) := by decide +kernel
theorem dX12_row_53 : decode cX12_row 53 = .ok (.iload_n 2, 1) := by decide +kernel
theorem dX12_row_54 : decode cX12_row 54 = .ok (.iastore, 1) := by decide +kernel
theorem dX12_row_55 : decode cX12_row 55 = .ok (.aload_n 0, 1) := by decide +kernel
theorem dX12_row_56 : decode cX12_row 56 = .ok (.getfield 13, 3) := by decide +kernel
theorem dX12_row_59 : decode cX12_row 59 = .ok (.iload_n 1, 1) := by decide +kernel
theorem dX12_row_60 : decode cX12_row 60 = .ok (.iload_n 3, 1) := by decide +kernel
theorem dX12_row_61 : decode cX12_row 61 = .ok (.iastore, 1) := by decide +kernel
theorem dX12_row_62 : decode cX12_row 62 = .ok (.iconst 0, 1) := by decide +kernel
theorem dX12_row_63 : decode cX12_row 63 = .ok (.istore 4, 2) := by decide +kernel
theorem dX12_row_65 : decode cX12_row 65 = .ok (.iload 4, 2) := by decide +kernel
theorem dX12_row_67 : decode cX12_row 67 = .ok (.bipush 40, 2) := by decide +kernel
theorem dX12_row_69 : decode cX12_row 69 = .ok (.if_icmp .ge 22, 3) := by decide +kernel
theorem dX12_row_72 : decode cX12_row 72 = .ok (.aload_n 0, 1) := by decide +kernel
theorem dX12_row_73 : decode cX12_row 73 = .ok (.getfield 16, 3) := by decide +kernel
theorem dX12_row_76 : decode cX12_row 76 = .ok (.bipush 40, 2) := by decide +kernel
theorem dX12_row_78 : decode cX12_row 78 = .ok (.iload_n 1, 1) := by decide +kernel
theorem dX12_row_79 : decode cX12_row 79 = .ok (.imul, 1) := by decide +kernel
theorem dX12_row_80 : decode cX12_row 80 = .ok (.iload 4, 2) := by decide +kernel
theorem dX12_row_82 : decode cX12_row 82 = .ok (.iadd, 1) := by decide +kernel
theorem dX12_row_83 : decode cX12_row 83 = .ok (.iconst 0, 1) := by decide +kernel
theorem dX12_row_84 : decode cX12_row 84 = .ok (.iastore, 1) := by decide +kernel
theorem dX12_row_85 : decode cX12_row 85 = .ok (.iinc 4 1, 3) := by decide +kernel
theorem dX12_row_88 : decode cX12_row 88 = .ok (.goto (-23), 3) := by decide +kernel
theorem dX12_row_91 : decode cX12_row 91 = .ok (.iload_n 3, 1) := by decide +kernel
theorem dX12_row_92 : decode cX12_row 92 = .ok (.ireturn, 1) := by decide +kernel
theorem dX12_set_0 : decode cX12_set 0 = .ok (.aload_n 0, 1) := by decide +kernel
theorem dX12_set_1 : decode cX12_set 1 = .ok (.iconst 0, 1) := by decide +kernel
theorem dX12_set_2 : decode cX12_set 2 = .ok (.putfield 53, 3) := by decide +kernel
theorem dX12_set_5 : decode cX12_set 5 = .ok (.iload_n 1, 1) := by decide +kernel
theorem dX12_set_6 : decode cX12_set 6 = .ok (.invokestatic 67, 3) := by decide +kernel
theorem dX12_set_9 : decode cX12_set 9 = .ok (.ifCond .ne 6, 3) := by decide +kernel
theorem dX12_set_12 : decode cX12_set 12 = .ok (.ldc 73, 2) := by decide +kernel
theorem dX12_set_14 : decode cX12_set 14 = .ok (.ireturn, 1) := by decide +kernel
theorem dX12_set_15 : decode cX12_set 15 = .ok (.aload_n 0, 1) := by decide +kernel
theorem dX12_set_16 : decode cX12_set 16 = .ok (.iconst 0, 1) := by decide +kernel
theorem dX12_set_17 : decode cX12_set 17 = .ok (.putfield 57, 3) := by decide +kernel
theorem dX12_set_20 : decode cX12_set 20 = .ok (.aload_n 0, 1) := by decide +kernel
theorem dX12_set_21 : decode cX12_set 21 = .ok (.getfield 7, 3) := by decide +kernel
theorem dX12_set_24 : decode cX12_set 24 = .ok (.iload_n 1, 1) := by decide +kernel
theorem dX12_set_25 : decode cX12_set 25 = .ok (.iaload, 1) := by decide +kernel
theorem dX12_set_26 : decode cX12_set 26 = .ok (.ifCond .ge 9, 3) := by decide +kernel
theorem dX12_set_29 : decode cX12_set 29 = .ok (.aload_n 0, 1) := by decide +kernel
theorem dX12_set_30 : decode cX12_set 30 = .ok (.iconst 1, 1) := by decide +kernel
theorem dX12_set_31 : decode cX12_set 31 = .ok (.invokevirtual 74, 3) := by decide +kernel
theorem dX12_set_34 : decode cX12_set 34 = .ok (.ireturn, 1) := by decide +kernel
theorem dX12_set_35 : decode cX12_set 35 = .ok (.iload_n 2, 1) := by decide +kernel
theorem dX12_set_36 : decode cX12_set 36 = .ok (.i2l, 1) := by decide +kernel
theorem dX12_set_37 : decode cX12_set 37 = .ok (.lconst 0, 1) := by decide +kernel
theorem dX12_set_38 : decode cX12_set 38 = .ok (.aload_n 0, 1) := by decide +kernel
theorem dX12_set_39 : decode cX12_set 39 = .ok (.getfield 13, 3) := by decide +kernel
theorem dX12_set_42 : decode cX12_set 42 = .ok (.iload_n 1, 1) := by decide +kernel
theorem dX12_set_43 : decode cX12_set 43 = .ok (.iaload, 1) := by decide +kernel
theorem dX12_set_44 : decode cX12_set 44 = .ok (.iconst 1, 1) := by decide +kernel
theorem dX12_set_45 : decode cX12_set 45 = .ok (.isub, 1) := by decide +kernel
theorem dX12_set_46 : decode cX12_set 46 = .ok (.i2l, 1) := by decide +kernel
theorem dX12_set_47 : decode cX12_set 47 = .ok (.invokestatic 63, 3) := by decide +kernel
theorem dX12_set_50 : decode cX12_set 50 = .ok (.ifCond .ne 9, 3) := by decide +kernel
theorem dX12_set_53 : decode cX12_set 53 = .ok (.aload_n 0, 1) := by decide +kernel
theorem dX12_set_54 : decode cX12_set 54 = .ok (.iconst 2, 1) := by decide +kernel
theorem dX12_set_55 : decode cX12_set 55 = .ok (.invokevirtual 74, 3) := by decide +kernel
theorem dX12_set_58 : decode cX12_set 58 = .ok (.ireturn, 1) := by decide +kernel
theorem dX12_set_59 : decode cX12_set 59 = .ok (.aload_n 0, 1) := by decide +kernel
theorem dX12_set_60 : decode cX12_set 60 = .ok (.getfield 16, 3) := by decide +kernel
theorem dX12_set_63 : decode cX12_set 63 = .ok (.bipush 40, 2) := by decide +kernel
theorem dX12_set_65 : decode cX12_set 65 = .ok (.iload_n 1, 1) := by decide +kernel
theorem dX12_set_66 : decode cX12_set 66 = .ok (.imul, 1) := by decide +kernel
theorem dX12_set_67 : decode cX12_set 67 = .ok (.iload_n 2, 1) := by decide +kernel
theorem dX12_set_68 : decode cX12_set 68 = .ok (.iadd, 1) := by decide +kernel
theorem dX12_set_69 : decode cX12_set 69 = .ok (.aload_n 0, 1) := by decide +kernel
theorem dX12_set_70 : decode cX12_set 70 = .ok (.getfield 7, 3) := by decide +kernel
theorem dX12_set_73 : decode cX12_set 73 = .ok (.iload_n 1, 1) := by decide +kernel
theorem dX12_set_74 : decode cX12_set 74 = .ok (.iaload, 1) := by decide +kernel
theorem dX12_set_75 : decode cX12_set 75 = .ok (.ifCond .ne 8, 3) := by decide +kernel
theorem dX12_set_78 : decode cX12_set 78 = .ok (.iload_n 3, 1) := by decide +kernel
theorem dX12_set_79 : decode cX12_set 79 = .ok (.i2b, 1) := by decide +kernel
theorem dX12_set_80 : decode cX12_set 80 = .ok (.goto 19, 3) := by decide +kernel
theorem dX12_set_83 : decode cX12_set 83 = .ok (.aload_n 0, 1) := by decide +kernel
theorem dX12_set_84 : decode cX12_set 84 = .ok (.getfield 7, 3) := by decide +kernel
theorem dX12_set_87 : decode cX12_set 87 = .ok (.iload_n 1, 1) := by decide +kernel
theorem dX12_set_88 : decode cX12_set 88 = .ok (.iaload, 1) := by decide +kernel
theorem dX12_set_89 : decode cX12_set 89 = .ok (.iconst 1, 1) := by decide +kernel
theorem dX12_set_90 : decode cX12_set 90 = .ok (.if_icmp .ne 8, 3) := by decide +kernel
theorem dX12_set_93 : decode cX12_set 93 = .ok (.iload_n 3, 1) := by decide +kernel
theorem dX12_set_94 : decode cX12_set 94 = .ok (.i2s, 1) := by decide +kernel
theorem dX12_set_95 : decode cX12_set 95 = .ok (.goto 4, 3) := by decide +kernel
theorem dX12_set_98 : decode cX12_set 98 = .ok (.iload_n 3, 1) := by decide +kernel
theorem dX12_set_99 : decode cX12_set 99 = .ok (.iastore, 1) := by decide +kernel
theorem dX12_set_100 : decode cX12_set 100 = .ok (.aload_n 0, 1) := by decide +kernel
theorem dX12_set_101 : decode cX12_set 101 = .ok (.getfield 16, 3) := by decide +kernel
theorem dX12_set_104 : decode cX12_set 104 = .ok (.bipush 40, 2) := by decide +kernel
theorem dX12_set_106 : decode cX12_set 106 = .ok (.iload_n 1, 1) := by decide +kernel
theorem dX12_set_107 : decode cX12_set 107 = .ok (.imul, 1) := by decide +kernel
theorem dX12_set_108 : decode cX12_set 108 = .ok (.iload_n 2, 1) := by decide +kernel
theorem dX12_set_109 : decode cX12_set 109 = .ok (.iadd, 1) := by decide +kernel
theorem dX12_set_110 : decode cX12_set 110 = .ok (.iaload, 1) := by decide +kernel
theorem dX12_set_111 : decode cX12_set 111 = .ok (.ireturn, 1) := by decide +kernel
theorem dX12_copy_0 : decode cX12_copy 0 = .ok (.aload_n 0, 1) := by decide +kernel
theorem dX12_copy_1 : decode cX12_copy 1 = .ok (.iconst 0, 1) := by decide +kernel
theorem dX12_copy_2 : decode cX12_copy 2 = .ok (.putfield 53, 3) := by decide +kernel
theorem dX12_copy_5 : decode cX12_copy 5 = .ok (.iload_n 1, 1) := by decide +kernel
theorem dX12_copy_6 : decode cX12_copy 6 = .ok (.invokestatic 67, 3) := by decide +kernel
theorem dX12_copy_9 : decode cX12_copy 9 = .ok (.ifCond .eq 10, 3) := by decide +kernel
theorem dX12_copy_12 : decode cX12_copy 12 = .ok (.iload_n 3, 1) := by decide +kernel
theorem dX12_copy_13 : decode cX12_copy 13 = .ok (.invokestatic 67, 3) := by decide +kernel
theorem dX12_copy_16 : decode cX12_copy 16 = .ok (.ifCond .ne 6, 3) := by decide +kernel
theorem dX12_copy_19 : decode cX12_copy 19 = .ok (.ldc 73, 2) := by decide +kernel
theorem dX12_copy_21 : decode cX12_copy 21 = .ok (.ireturn, 1) := by decide +kernel
theorem dX12_copy_22 : decode cX12_copy 22 = .ok (.aload_n 0, 1) := by decide +kernel
theorem dX12_copy_23 : decode cX12_copy 23 = .ok (.iconst 0, 1) := by decide +kernel
theorem dX12_copy_24 : decode cX12_copy 24 = .ok (.putfield 57, 3) := by decide +kernel
theorem dX12_copy_27 : decode cX12_copy 27 = .ok (.aload_n 0, 1) := by decide +kernel
theorem dX12_copy_28 : decode cX12_copy 28 = .ok (.getfield 7, 3) := by decide +kernel
theorem dX12_copy_31 : decode cX12_copy 31 = .ok (.iload_n 1, 1) := by decide +kernel
theorem dX12_copy_32 : decode cX12_copy 32 = .ok (.iaload, 1) := by decide +kernel
theorem dX12_copy_33 : decode cX12_copy 33 = .ok (.ifCond .lt 12, 3) := by decide +kernel
theorem dX12_copy_36 : decode cX12_copy 36 = .ok (.aload_n 0, 1) := by decide +kernel
theorem dX12_copy_37 : decode cX12_copy 37 = .ok (.getfield 7, 3) := by decide +kernel
theorem dX12_copy_40 : decode cX12_copy 40 = .ok (.iload_n 3, 1) := by decide +kernel
theorem dX12_copy_41 : decode cX12_copy 41 = .ok (.iaload, 1) := by decide +kernel
theorem dX12_copy_42 : decode cX12_copy 42 = .ok (.ifCond .ge 9, 3) := by decide +kernel
theorem dX12_copy_45 : decode cX12_copy 45 = .ok (.aload_n 0, 1) := by decide +kernel
theorem dX12_copy_46 : decode cX12_copy 46 = .ok (.iconst 1, 1) := by decide +kernel
theorem dX12_copy_47 : decode cX12_copy 47 = .ok (.invokevirtual 74, 3) := by decide +kernel
theorem dX12_copy_50 : decode cX12_copy 50 = .ok (.ireturn, 1) := by decide +kernel
theorem dX12_copy_51 : decode cX12_copy 51 = .ok (.aload_n 0, 1) := by decide +kernel
theorem dX12_copy_52 : decode cX12_copy 52 = .ok (.getfield 7, 3) := by decide +kernel
theorem dX12_copy_55 : decode cX12_copy 55 = .ok (.iload_n 1, 1) := by decide +kernel
theorem dX12_copy_56 : decode cX12_copy 56 = .ok (.iaload, 1) := by decide +kernel
theorem dX12_copy_57 : decode cX12_copy 57 = .ok (.aload_n 0, 1) := by decide +kernel
theorem dX12_copy_58 : decode cX12_copy 58 = .ok (.getfield 7, 3) := by decide +kernel
theorem dX12_copy_61 : decode cX12_copy 61 = .ok (.iload_n 3, 1) := by decide +kernel
theorem dX12_copy_62 : decode cX12_copy 62 = .ok (.iaload, 1) := by decide +kernel
theorem dX12_copy_63 : decode cX12_copy 63 = .ok (.if_icmp .eq 9, 3) := by decide +kernel
theorem dX12_copy_66 : decode cX12_copy 66 = .ok (.aload_n 0, 1) := by decide +kernel
theorem dX12_copy_67 : decode cX12_copy 67 = .ok (.iconst 5, 1) := by decide +kernel
theorem dX12_copy_68 : decode cX12_copy 68 = .ok (.invokevirtual 74, 3) := by decide +kernel
theorem dX12_copy_71 : decode cX12_copy 71 = .ok (.ireturn, 1) := by decide +kernel
theorem dX12_copy_72 : decode cX12_copy 72 = .ok (.iload_n 2, 1) := by decide +kernel
theorem dX12_copy_73 : decode cX12_copy 73 = .ok (.ifCond .lt 48, 3) := by decide +kernel
theorem dX12_copy_76 : decode cX12_copy 76 = .ok (.iload 4, 2) := by decide +kernel
theorem dX12_copy_78 : decode cX12_copy 78 = .ok (.ifCond .lt 43, 3) := by decide +kernel
theorem dX12_copy_81 : decode cX12_copy 81 = .ok (.iload 5, 2) := by decide +kernel
theorem dX12_copy_83 : decode cX12_copy 83 = .ok (.ifCond .lt 38, 3) := by decide +kernel
theorem dX12_copy_86 : decode cX12_copy 86 = .ok (.iload_n 2, 1) := by decide +kernel
theorem dX12_copy_87 : decode cX12_copy 87 = .ok (.i2l, 1) := by decide +kernel
theorem dX12_copy_88 : decode cX12_copy 88 = .ok (.iload 5, 2) := by decide +kernel
theorem dX12_copy_90 : decode cX12_copy 90 = .ok (.i2l, 1) := by decide +kernel
theorem dX12_copy_91 : decode cX12_copy 91 = .ok (.ladd, 1) := by decide +kernel
theorem dX12_copy_92 : decode cX12_copy 92 = .ok (.aload_n 0, 1) := by decide +kernel
theorem dX12_copy_93 : decode cX12_copy 93 = .ok (.getfield 13, 3) := by decide +kernel
theorem dX12_copy_96 : decode cX12_copy 96 = .ok (.iload_n 1, 1) := by decide +kernel
theorem dX12_copy_97 : decode cX12_copy 97 = .ok (.iaload, 1) := by decide +kernel
theorem dX12_copy_98 : decode cX12_copy 98 = .ok (.i2l, 1) := by decide +kernel
theorem dX12_copy_99 : decode cX12_copy 99 = .ok (.lcmp, 1) := by decide +kernel
theorem dX12_copy_100 : decode cX12_copy 100 = .ok (.ifCond .gt 21, 3) := by decide +kernel
theorem dX12_copy_103 : decode cX12_copy 103 = .ok (.iload 4, 2) := by decide +kernel
theorem dX12_copy_105 : decode cX12_copy 105 = .ok (.i2l, 1) := by decide +kernel
theorem dX12_copy_106 : decode cX12_copy 106 = .ok (.iload 5, 2) := by decide +kernel
theorem dX12_copy_108 : decode cX12_copy 108 = .ok (.i2l, 1) := by decide +kernel
theorem dX12_copy_109 : decode cX12_copy 109 = .ok (.ladd, 1) := by decide +kernel
theorem dX12_copy_110 : decode cX12_copy 110 = .ok (.aload_n 0, 1) := by decide +kernel
theorem dX12_copy_111 : decode cX12_copy 111 = .ok (.getfield 13, 3) := by decide +kernel
theorem dX12_copy_114 : decode cX12_copy 114 = .ok (.iload_n 3, 1) := by decide +kernel
theorem dX12_copy_115 : decode cX12_copy 115 = .ok (.iaload, 1) := by decide +kernel
theorem dX12_copy_116 : decode cX12_copy 116 = .ok (.i2l, 1) := by decide +kernel
theorem dX12_copy_117 : decode cX12_copy 117 = .ok (.lcmp, 1) := by decide +kernel
theorem dX12_copy_118 : decode cX12_copy 118 = .ok (.ifCond .le 9, 3) := by decide +kernel
theorem dX12_copy_121 : decode cX12_copy 121 = .ok (.aload_n 0, 1) := by decide +kernel
theorem dX12_copy_122 : decode cX12_copy 122 = .ok (.iconst 2, 1) := by decide +kernel
theorem dX12_copy_123 : decode cX12_copy 123 = .ok (.invokevirtual 74, 3) := by decide +kernel
theorem dX12_copy_126 : decode cX12_copy 126 = .ok (.ireturn, 1) := by decide +kernel
theorem dX12_copy_127 : decode cX12_copy 127 = .ok (.iload_n 2, 1) := by decide +kernel
theorem dX12_copy_128 : decode cX12_copy 128 = .ok (.iload 4, 2) := by decide +kernel
theorem dX12_copy_130 : decode cX12_copy 130 = .ok (.if_icmp .lt 7, 3) := by decide +kernel
theorem dX12_copy_133 : decode cX12_copy 133 = .ok (.iconst 1, 1) := by decide +kernel
theorem dX12_copy_134 : decode cX12_copy 134 = .ok (.goto 4, 3) := by decide +kernel
theorem dX12_copy_137 : decode cX12_copy 137 = .ok (.iconst 0, 1) := by decide +kernel
theorem dX12_copy_138 : decode cX12_copy 138 = .ok (.istore 6, 2) := by decide +kernel
theorem dX12_copy_140 : decode cX12_copy 140 = .ok (.iconst 0, 1) := by decide +kernel
theorem dX12_copy_141 : decode cX12_copy 141 = .ok (.istore 7, 2) := by decide +kernel
theorem dX12_copy_143 : decode cX12_copy 143 = .ok (.iload 7, 2) := by decide +kernel
theorem dX12_copy_145 : decode cX12_copy 145 = .ok (.iload 5, 2) := by decide +kernel
theorem dX12_copy_147 : decode cX12_copy 147 = .ok (.if_icmp .ge 57, 3) := by decide +kernel
theorem dX12_copy_150 : decode cX12_copy 150 = .ok (.iload 6, 2) := by decide +kernel
theorem dX12_copy_152 : decode cX12_copy 152 = .ok (.ifCond .eq 8, 3) := by decide +kernel
theorem dX12_copy_155 : decode cX12_copy 155 = .ok (.iload 7, 2) := by decide +kernel
theorem dX12_copy_157 : decode cX12_copy 157 = .ok (.goto 10, 3) := by decide +kernel
theorem dX12_copy_160 : decode cX12_copy 160 = .ok (.iload 5, 2) := by decide +kernel
theorem dX12_copy_162 : decode cX12_copy 162 = .ok (.iconst 1, 1) := by decide +kernel
theorem dX12_copy_163 : decode cX12_copy 163 = .ok (.isub, 1) := by decide +kernel
theorem dX12_copy_164 : decode cX12_copy 164 = .ok (.iload 7, 2) := by decide +kernel
theorem dX12_copy_166 : decode cX12_copy 166 = .ok (.isub, 1) := by decide +kernel
theorem dX12_copy_167 : decode cX12_copy 167 = .ok (.istore 8, 2) := by decide +kernel
theorem dX12_copy_169 : decode cX12_copy 169 = .ok (.aload_n 0, 1) := by decide +kernel
theorem dX12_copy_170 : decode cX12_copy 170 = .ok (.getfield 16, 3) := by decide +kernel
theorem dX12_copy_173 : decode cX12_copy 173 = .ok (.bipush 40, 2) := by decide +kernel
theorem dX12_copy_175 : decode cX12_copy 175 = .ok (.iload_n 3, 1) := by decide +kernel
theorem dX12_copy_176 : decode cX12_copy 176 = .ok (.imul, 1) := by decide +kernel
theorem dX12_copy_177 : decode cX12_copy 177 = .ok (.iload 4, 2) := by decide +kernel
theorem dX12_copy_179 : decode cX12_copy 179 = .ok (.iadd, 1) := by decide +kernel
theorem dX12_copy_180 : decode cX12_copy 180 = .ok (.iload 8, 2) := by decide +kernel
theorem dX12_copy_182 : decode cX12_copy 182 = .ok (.iadd, 1) := by decide +kernel
theorem dX12_copy_183 : decode cX12_copy 183 = .ok (.aload_n 0, 1) := by decide +kernel
theorem dX12_copy_184 : decode cX12_copy 184 = .ok (.getfield 16, 3) := by decide +kernel
theorem dX12_copy_187 : decode cX12_copy 187 = .ok (.bipush 40, 2) := by decide +kernel
theorem dX12_copy_189 : decode cX12_copy 189 = .ok (.iload_n 1, 1) := by decide +kernel
theorem dX12_copy_190 : decode cX12_copy 190 = .ok (.imul, 1) := by decide +kernel
theorem dX12_copy_191 : decode cX12_copy 191 = .ok (.iload_n 2, 1) := by decide +kernel
theorem dX12_copy_192 : decode cX12_copy 192 = .ok (.iadd, 1) := by decide +kernel
theorem dX12_copy_193 : decode cX12_copy 193 = .ok (.iload 8, 2) := by decide +kernel
theorem dX12_copy_195 : decode cX12_copy 195 = .ok (.iadd, 1) := by decide +kernel
theorem dX12_copy_196 : decode cX12_copy 196 = .ok (.iaload, 1) := by decide +kernel
theorem dX12_copy_197 : decode cX12_copy 197 = .ok (.iastore, 1) := by decide +kernel
theorem dX12_copy_198 : decode cX12_copy 198 = .ok (.iinc 7 1, 3) := by decide +kernel
theorem dX12_copy_201 : decode cX12_copy 201 = .ok (.goto (-58), 3) := by decide +kernel
theorem dX12_copy_204 : decode cX12_copy 204 = .ok (.iload 5, 2) := by decide +kernel
theorem dX12_copy_206 : decode cX12_copy 206 = .ok (.ireturn, 1) := by decide +kernel
theorem dX12_drop_0 : decode cX12_drop 0 = .ok (.aload_n 0, 1) := by decide +kernel
theorem dX12_drop_1 : decode cX12_drop 1 = .ok (.iconst 0, 1) := by decide +kernel
theorem dX12_drop_2 : decode cX12_drop 2 = .ok (.putfield 53, 3) := by decide +kernel
theorem dX12_drop_5 : decode cX12_drop 5 = .ok (.iload_n 1, 1) := by decide +kernel
theorem dX12_drop_6 : decode cX12_drop 6 = .ok (.invokestatic 67, 3) := by decide +kernel
theorem dX12_drop_9 : decode cX12_drop 9 = .ok (.ifCond .ne 6, 3) := by decide +kernel
theorem dX12_drop_12 : decode cX12_drop 12 = .ok (.ldc 73, 2) := by decide +kernel
theorem dX12_drop_14 : decode cX12_drop 14 = .ok (.ireturn, 1) := by decide +kernel
theorem dX12_drop_15 : decode cX12_drop 15 = .ok (.aload_n 0, 1) := by decide +kernel
theorem dX12_drop_16 : decode cX12_drop 16 = .ok (.iconst 0, 1) := by decide +kernel
theorem dX12_drop_17 : decode cX12_drop 17 = .ok (.putfield 57, 3) := by decide +kernel
theorem dX12_drop_20 : decode cX12_drop 20 = .ok (.aload_n 0, 1) := by decide +kernel
theorem dX12_drop_21 : decode cX12_drop 21 = .ok (.getfield 7, 3) := by decide +kernel
theorem dX12_drop_24 : decode cX12_drop 24 = .ok (.iload_n 1, 1) := by decide +kernel
theorem dX12_drop_25 : decode cX12_drop 25 = .ok (.iaload, 1) := by decide +kernel
theorem dX12_drop_26 : decode cX12_drop 26 = .ok (.ifCond .ge 9, 3) := by decide +kernel
theorem dX12_drop_29 : decode cX12_drop 29 = .ok (.aload_n 0, 1) := by decide +kernel
theorem dX12_drop_30 : decode cX12_drop 30 = .ok (.iconst 1, 1) := by decide +kernel
theorem dX12_drop_31 : decode cX12_drop 31 = .ok (.invokevirtual 74, 3) := by decide +kernel
theorem dX12_drop_34 : decode cX12_drop 34 = .ok (.ireturn, 1) := by decide +kernel
theorem dX12_drop_35 : decode cX12_drop 35 = .ok (.aload_n 0, 1) := by decide +kernel
theorem dX12_drop_36 : decode cX12_drop 36 = .ok (.getfield 7, 3) := by decide +kernel
theorem dX12_drop_39 : decode cX12_drop 39 = .ok (.iload_n 1, 1) := by decide +kernel
theorem dX12_drop_40 : decode cX12_drop 40 = .ok (.iconst (-1), 1) := by decide +kernel
theorem dX12_drop_41 : decode cX12_drop 41 = .ok (.iastore, 1) := by decide +kernel
theorem dX12_drop_42 : decode cX12_drop 42 = .ok (.aload_n 0, 1) := by decide +kernel
theorem dX12_drop_43 : decode cX12_drop 43 = .ok (.getfield 13, 3) := by decide +kernel
theorem dX12_drop_46 : decode cX12_drop 46 = .ok (.iload_n 1, 1) := by decide +kernel
theorem dX12_drop_47 : decode cX12_drop 47 = .ok (.iaload, 1) := by decide +kernel
theorem dX12_drop_48 : decode cX12_drop 48 = .ok (.ireturn, 1) := by decide +kernel
theorem dX12_feed_0 : decode cX12_feed 0 = .ok (.aload_n 0, 1) := by decide +kernel
theorem dX12_feed_1 : decode cX12_feed 1 = .ok (.iconst 0, 1) := by decide +kernel
theorem dX12_feed_2 : decode cX12_feed 2 = .ok (.putfield 53, 3) := by decide +kernel
theorem dX12_feed_5 : decode cX12_feed 5 = .ok (.iload_n 3, 1) := by decide +kernel
theorem dX12_feed_6 : decode cX12_feed 6 = .ok (.i2l, 1) := by decide +kernel
theorem dX12_feed_7 : decode cX12_feed 7 = .ok (.lconst 1, 1) := by decide +kernel
theorem dX12_feed_8 : decode cX12_feed 8 = .ok (.ldc2_w 78, 3) := by decide +kernel
theorem dX12_feed_11 : decode cX12_feed 11 = .ok (.invokestatic 63, 3) := by decide +kernel
theorem dX12_feed_14 : decode cX12_feed 14 = .ok (.ifCond .ne 6, 3) := by decide +kernel
theorem dX12_feed_17 : decode cX12_feed 17 = .ok (.ldc 73, 2) := by decide +kernel
theorem dX12_feed_19 : decode cX12_feed 19 = .ok (.ireturn, 1) := by decide +kernel
theorem dX12_feed_20 : decode cX12_feed 20 = .ok (.aload_n 0, 1) := by decide +kernel
theorem dX12_feed_21 : decode cX12_feed 21 = .ok (.getfield 80, 3) := by decide +kernel
theorem dX12_feed_24 : decode cX12_feed 24 = .ok (.iload_n 3, 1) := by decide +kernel
theorem dX12_feed_25 : decode cX12_feed 25 = .ok (.iadd, 1) := by decide +kernel
theorem dX12_feed_26 : decode cX12_feed 26 = .ok (.sipush 500, 3) := by decide +kernel
theorem dX12_feed_29 : decode cX12_feed 29 = .ok (.if_icmp .le 6, 3) := by decide +kernel
theorem dX12_feed_32 : decode cX12_feed 32 = .ok (.ldc 83, 2) := by decide +kernel
theorem dX12_feed_34 : decode cX12_feed 34 = .ok (.ireturn, 1) := by decide +kernel
theorem dX12_feed_35 : decode cX12_feed 35 = .ok (.iload_n 3, 1) := by decide +kernel
theorem dX12_feed_36 : decode cX12_feed 36 = .ok (.iconst 1, 1) := by decide +kernel
theorem dX12_feed_37 : decode cX12_feed 37 = .ok (.isub, 1) := by decide +kernel
theorem dX12_feed_38 : decode cX12_feed 38 = .ok (.istore 4, 2) := by decide +kernel
theorem dX12_feed_40 : decode cX12_feed 40 = .ok (.iload 4, 2) := by decide +kernel
theorem dX12_feed_42 : decode cX12_feed 42 = .ok (.ifCond .lt 40, 3) := by decide +kernel
theorem dX12_feed_45 : decode cX12_feed 45 = .ok (.aload_n 0, 1) := by decide +kernel
theorem dX12_feed_46 : decode cX12_feed 46 = .ok (.getfield 25, 3) := by decide +kernel
theorem dX12_feed_49 : decode cX12_feed 49 = .ok (.aload_n 0, 1) := by decide +kernel
theorem dX12_feed_50 : decode cX12_feed 50 = .ok (.getfield 80, 3) := by decide +kernel
theorem dX12_feed_53 : decode cX12_feed 53 = .ok (.lload_n 1, 1) := by decide +kernel
theorem dX12_feed_54 : decode cX12_feed 54 = .ok (.bipush 8, 2) := by decide +kernel
theorem dX12_feed_56 : decode cX12_feed 56 = .ok (.iload 4, 2) := by decide +kernel
theorem dX12_feed_58 : decode cX12_feed 58 = .ok (.imul, 1) := by decide +kernel
theorem dX12_feed_59 : decode cX12_feed 59 = .ok (.lshr, 1) := by decide +kernel
theorem dX12_feed_60 : decode cX12_feed 60 = .ok (.ldc2_w 84, 3) := by decide +kernel
theorem dX12_feed_63 : decode cX12_feed 63 = .ok (.land, 1) := by decide +kernel
theorem dX12_feed_64 : decode cX12_feed 64 = .ok (.l2i, 1) := by decide +kernel
theorem dX12_feed_65 : decode cX12_feed 65 = .ok (.iastore, 1) := by decide +kernel
theorem dX12_feed_66 : decode cX12_feed 66 = .ok (.aload_n 0, 1) := by decide +kernel
theorem dX12_feed_67 : decode cX12_feed 67 = .ok (.dup, 1) := by decide +kernel
theorem dX12_feed_68 : decode cX12_feed 68 = .ok (.getfield 80, 3) := by decide +kernel
theorem dX12_feed_71 : decode cX12_feed 71 = .ok (.iconst 1, 1) := by decide +kernel
theorem dX12_feed_72 : decode cX12_feed 72 = .ok (.iadd, 1) := by decide +kernel
theorem dX12_feed_73 : decode cX12_feed 73 = .ok (.putfield 80, 3) := by decide +kernel
theorem dX12_feed_76 : decode cX12_feed 76 = .ok (.iinc 4 (-1), 3) := by decide +kernel
theorem dX12_feed_79 : decode cX12_feed 79 = .ok (.goto (-39), 3) := by decide +kernel
theorem dX12_feed_82 : decode cX12_feed 82 = .ok (.aload_n 0, 1) := by decide +kernel
theorem dX12_feed_83 : decode cX12_feed 83 = .ok (.getfield 80, 3) := by decide +kernel
theorem dX12_feed_86 : decode cX12_feed 86 = .ok (.ireturn, 1) := by decide +kernel
theorem dX12_byteAt_0 : decode cX12_byteAt 0 = .ok (.iload_n 1, 1) := by decide +kernel
theorem dX12_byteAt_1 : decode cX12_byteAt 1 = .ok (.aload_n 0, 1) := by decide +kernel
theorem dX12_byteAt_2 : decode cX12_byteAt 2 = .ok (.getfield 86, 3) := by decide +kernel
theorem dX12_byteAt_5 : decode cX12_byteAt 5 = .ok (.if_icmp .ge 12, 3) := by decide +kernel
theorem dX12_byteAt_8 : decode cX12_byteAt 8 = .ok (.aload_n 0, 1) := by decide +kernel
theorem dX12_byteAt_9 : decode cX12_byteAt 9 = .ok (.getfield 25, 3) := by decide +kernel
theorem dX12_byteAt_12 : decode cX12_byteAt 12 = .ok (.iload_n 1, 1) := by decide +kernel
theorem dX12_byteAt_13 : decode cX12_byteAt 13 = .ok (.iaload, 1) := by decide +kernel
theorem dX12_byteAt_14 : decode cX12_byteAt 14 = .ok (.goto 5, 3) := by decide +kernel
theorem dX12_byteAt_17 : decode cX12_byteAt 17 = .ok (.ldc 89, 2) := by decide +kernel
theorem dX12_byteAt_19 : decode cX12_byteAt 19 = .ok (.ireturn, 1) := by decide +kernel
theorem dX12_isLetter_0 : decode cX12_isLetter 0 = .ok (.iload_n 0, 1) := by decide +kernel
theorem dX12_isLetter_1 : decode cX12_isLetter 1 = .ok (.bipush 97, 2) := by decide +kernel
theorem dX12_isLetter_3 : decode cX12_isLetter 3 = .ok (.if_icmp .lt 13, 3) := by decide +kernel
theorem dX12_isLetter_6 : decode cX12_isLetter 6 = .ok (.iload_n 0, 1) := by decide +kernel
theorem dX12_isLetter_7 : decode cX12_isLetter 7 = .ok (.bipush 122, 2) := by decide +kernel
theorem dX12_isLetter_9 : decode cX12_isLetter 9 = .ok (.if_icmp .gt 7, 3) := by decide +kernel
theorem dX12_isLetter_12 : decode cX12_isLetter 12 = .ok (.iconst 1, 1) := by decide +kernel
theorem dX12_isLetter_13 : decode cX12_isLetter 13 = .ok (.goto 4, 3) := by decide +kernel
theorem dX12_isLetter_16 : decode cX12_isLetter 16 = .ok (.iconst 0, 1) := by decide +kernel
theorem dX12_isLetter_17 : decode cX12_isLetter 17 = .ok (.ireturn, 1) := by decide +kernel
theorem dX12_isFigure_0 : decode cX12_isFigure 0 = .ok (.iload_n 0, 1) := by decide +kernel
theorem dX12_isFigure_1 : decode cX12_isFigure 1 = .ok (.bipush 48, 2) := by decide +kernel
theorem dX12_isFigure_3 : decode cX12_isFigure 3 = .ok (.if_icmp .lt 13, 3) := by decide +kernel
theorem dX12_isFigure_6 : decode cX12_isFigure 6 = .ok (.iload_n 0, 1) := by decide +kernel
theorem dX12_isFigure_7 : decode cX12_isFigure 7 = .ok (.bipush 57, 2) := by decide +kernel
theorem dX12_isFigure_9 : decode cX12_isFigure 9 = .ok (.if_icmp .gt 7, 3) := by decide +kernel
theorem dX12_isFigure_12 : decode cX12_isFigure 12 = .ok (.iconst 1, 1) := by decide +kernel
theorem dX12_isFigure_13 : decode cX12_isFigure 13 = .ok (.goto 4, 3) := by decide +kernel
theorem dX12_isFigure_16 : decode cX12_isFigure 16 = .ok (.iconst 0, 1) := by decide +kernel
theorem dX12_isFigure_17 : decode cX12_isFigure 17 = .ok (.ireturn, 1) := by decide +kernel
theorem dX12_next_0 : decode cX12_next 0 = .ok (.aload_n 0, 1) := by decide +kernel
theorem dX12_next_1 : decode cX12_next 1 = .ok (.aload_n 0, 1) := by decide +kernel
theorem dX12_next_2 : decode cX12_next 2 = .ok (.getfield 90, 3) := by decide +kernel
theorem dX12_next_5 : decode cX12_next 5 = .ok (.invokevirtual 93, 3) := by decide +kernel
theorem dX12_next_8 : decode cX12_next 8 = .ok (.bipush 32, 2) := by decide +kernel
theorem dX12_next_10 : decode cX12_next 10 = .ok (.if_icmp .eq 16, 3) := by decide +kernel
theorem dX12_next_13 : decode cX12_next 13 = .ok (.aload_n 0, 1) := by decide +kernel
theorem dX12_next_14 : decode cX12_next 14 = .ok (.aload_n 0, 1) := by decide +kernel
theorem dX12_next_15 : decode cX12_next 15 = .ok (.getfield 90, 3) := by decide +kernel
theorem dX12_next_18 : decode cX12_next 18 = .ok (.invokevirtual 93, 3) := by decide +kernel
theorem dX12_next_21 : decode cX12_next 21 = .ok (.bipush 10, 2) := by decide +kernel
theorem dX12_next_23 : decode cX12_next 23 = .ok (.if_icmp .ne 16, 3) := by decide +kernel
theorem dX12_next_26 : decode cX12_next 26 = .ok (.aload_n 0, 1) := by decide +kernel
theorem dX12_next_27 : decode cX12_next 27 = .ok (.dup, 1) := by decide +kernel
theorem dX12_next_28 : decode cX12_next 28 = .ok (.getfield 90, 3) := by decide +kernel
theorem dX12_next_31 : decode cX12_next 31 = .ok (.iconst 1, 1) := by decide +kernel
theorem dX12_next_32 : decode cX12_next 32 = .ok (.iadd, 1) := by decide +kernel
theorem dX12_next_33 : decode cX12_next 33 = .ok (.putfield 90, 3) := by decide +kernel
theorem dX12_next_36 : decode cX12_next 36 = .ok (.goto (-36), 3) := by decide +kernel
theorem dX12_next_39 : decode cX12_next 39 = .ok (.aload_n 0, 1) := by decide +kernel
theorem dX12_next_40 : decode cX12_next 40 = .ok (.aload_n 0, 1) := by decide +kernel
theorem dX12_next_41 : decode cX12_next 41 = .ok (.getfield 90, 3) := by decide +kernel
theorem dX12_next_44 : decode cX12_next 44 = .ok (.putfield 96, 3) := by decide +kernel
theorem dX12_next_47 : decode cX12_next 47 = .ok (.aload_n 0, 1) := by decide +kernel
theorem dX12_next_48 : decode cX12_next 48 = .ok (.aload_n 0, 1) := by decide +kernel
theorem dX12_next_49 : decode cX12_next 49 = .ok (.getfield 90, 3) := by decide +kernel
theorem dX12_next_52 : decode cX12_next 52 = .ok (.invokevirtual 93, 3) := by decide +kernel
theorem dX12_next_55 : decode cX12_next 55 = .ok (.istore_n 1, 1) := by decide +kernel
theorem dX12_next_56 : decode cX12_next 56 = .ok (.iload_n 1, 1) := by decide +kernel
theorem dX12_next_57 : decode cX12_next 57 = .ok (.ldc 89, 2) := by decide +kernel
theorem dX12_next_59 : decode cX12_next 59 = .ok (.if_icmp .ne 11, 3) := by decide +kernel
theorem dX12_next_62 : decode cX12_next 62 = .ok (.aload_n 0, 1) := by decide +kernel
theorem dX12_next_63 : decode cX12_next 63 = .ok (.iconst 1, 1) := by decide +kernel
theorem dX12_next_64 : decode cX12_next 64 = .ok (.putfield 99, 3) := by decide +kernel
theorem dX12_next_67 : decode cX12_next 67 = .ok (.goto 129, 3) := by decide +kernel
theorem dX12_next_70 : decode cX12_next 70 = .ok (.iload_n 1, 1) := by decide +kernel
theorem dX12_next_71 : decode cX12_next 71 = .ok (.invokestatic 102, 3) := by decide +kernel
theorem dX12_next_74 : decode cX12_next 74 = .ok (.ifCond .eq 38, 3) := by decide +kernel
theorem dX12_next_77 : decode cX12_next 77 = .ok (.aload_n 0, 1) := by decide +kernel
theorem dX12_next_78 : decode cX12_next 78 = .ok (.aload_n 0, 1) := by decide +kernel
theorem dX12_next_79 : decode cX12_next 79 = .ok (.getfield 90, 3) := by decide +kernel
theorem dX12_next_82 : decode cX12_next 82 = .ok (.invokevirtual 93, 3) := by decide +kernel
theorem dX12_next_85 : decode cX12_next 85 = .ok (.invokestatic 102, 3) := by decide +kernel
theorem dX12_next_88 : decode cX12_next 88 = .ok (.ifCond .eq 16, 3) := by decide +kernel
theorem dX12_next_91 : decode cX12_next 91 = .ok (.aload_n 0, 1) := by decide +kernel
theorem dX12_next_92 : decode cX12_next 92 = .ok (.dup, 1) := by decide +kernel
theorem dX12_next_93 : decode cX12_next 93 = .ok (.getfield 90, 3) := by decide +kernel
theorem dX12_next_96 : decode cX12_next 96 = .ok (.iconst 1, 1) := by decide +kernel
theorem dX12_next_97 : decode cX12_next 97 = .ok (.iadd, 1) := by decide +kernel
theorem dX12_next_98 : decode cX12_next 98 = .ok (.putfield 90, 3) := by decide +kernel
theorem dX12_next_101 : decode cX12_next 101 = .ok (.goto (-24), 3) := by decide +kernel
theorem dX12_next_104 : decode cX12_next 104 = .ok (.aload_n 0, 1) := by decide +kernel
theorem dX12_next_105 : decode cX12_next 105 = .ok (.iconst 2, 1) := by decide +kernel
theorem dX12_next_106 : decode cX12_next 106 = .ok (.putfield 99, 3) := by decide +kernel
theorem dX12_next_109 : decode cX12_next 109 = .ok (.goto 87, 3) := by decide +kernel
theorem dX12_next_112 : decode cX12_next 112 = .ok (.iload_n 1, 1) := by decide +kernel
theorem dX12_next_113 : decode cX12_next 113 = .ok (.invokestatic 105, 3) := by decide +kernel
theorem dX12_next_116 : decode cX12_next 116 = .ok (.ifCond .eq 55, 3) := by decide +kernel
theorem dX12_next_119 : decode cX12_next 119 = .ok (.aload_n 0, 1) := by decide +kernel
theorem dX12_next_120 : decode cX12_next 120 = .ok (.aload_n 0, 1) := by decide +kernel
theorem dX12_next_121 : decode cX12_next 121 = .ok (.getfield 90, 3) := by decide +kernel
theorem dX12_next_124 : decode cX12_next 124 = .ok (.invokevirtual 93, 3) := by decide +kernel
theorem dX12_next_127 : decode cX12_next 127 = .ok (.invokestatic 105, 3) := by decide +kernel
theorem dX12_next_130 : decode cX12_next 130 = .ok (.ifCond .eq 16, 3) := by decide +kernel
theorem dX12_next_133 : decode cX12_next 133 = .ok (.aload_n 0, 1) := by decide +kernel
theorem dX12_next_134 : decode cX12_next 134 = .ok (.dup, 1) := by decide +kernel
theorem dX12_next_135 : decode cX12_next 135 = .ok (.getfield 90, 3) := by decide +kernel
theorem dX12_next_138 : decode cX12_next 138 = .ok (.iconst 1, 1) := by decide +kernel
theorem dX12_next_139 : decode cX12_next 139 = .ok (.iadd, 1) := by decide +kernel
theorem dX12_next_140 : decode cX12_next 140 = .ok (.putfield 90, 3) := by decide +kernel
theorem dX12_next_143 : decode cX12_next 143 = .ok (.goto (-24), 3) := by decide +kernel
theorem dX12_next_146 : decode cX12_next 146 = .ok (.aload_n 0, 1) := by decide +kernel
theorem dX12_next_147 : decode cX12_next 147 = .ok (.aload_n 0, 1) := by decide +kernel
theorem dX12_next_148 : decode cX12_next 148 = .ok (.getfield 90, 3) := by decide +kernel
theorem dX12_next_151 : decode cX12_next 151 = .ok (.aload_n 0, 1) := by decide +kernel
theorem dX12_next_152 : decode cX12_next 152 = .ok (.getfield 96, 3) := by decide +kernel
theorem dX12_next_155 : decode cX12_next 155 = .ok (.isub, 1) := by decide +kernel
theorem dX12_next_156 : decode cX12_next 156 = .ok (.iconst 3, 1) := by decide +kernel
theorem dX12_next_157 : decode cX12_next 157 = .ok (.if_icmp .le 7, 3) := by decide +kernel
theorem dX12_next_160 : decode cX12_next 160 = .ok (.iconst 0, 1) := by decide +kernel
theorem dX12_next_161 : decode cX12_next 161 = .ok (.goto 4, 3) := by decide +kernel
theorem dX12_next_164 : decode cX12_next 164 = .ok (.iconst 3, 1) := by decide +kernel
theorem dX12_next_165 : decode cX12_next 165 = .ok (.putfield 99, 3) := by decide +kernel
theorem dX12_next_168 : decode cX12_next 168 = .ok (.goto 28, 3) := by decide +kernel
theorem dX12_next_171 : decode cX12_next 171 = .ok (.aload_n 0, 1) := by decide +kernel
theorem dX12_next_172 : decode cX12_next 172 = .ok (.dup, 1) := by decide +kernel
theorem dX12_next_173 : decode cX12_next 173 = .ok (.getfield 90, 3) := by decide +kernel
theorem dX12_next_176 : decode cX12_next 176 = .ok (.iconst 1, 1) := by decide +kernel
theorem dX12_next_177 : decode cX12_next 177 = .ok (.iadd, 1) := by decide +kernel
theorem dX12_next_178 : decode cX12_next 178 = .ok (.putfield 90, 3) := by decide +kernel
theorem dX12_next_181 : decode cX12_next 181 = .ok (.aload_n 0, 1) := by decide +kernel
theorem dX12_next_182 : decode cX12_next 182 = .ok (.iload_n 1, 1) := by decide +kernel
theorem dX12_next_183 : decode cX12_next 183 = .ok (.bipush 59, 2) := by decide +kernel
theorem dX12_next_185 : decode cX12_next 185 = .ok (.if_icmp .ne 7, 3) := by decide +kernel
theorem dX12_next_188 : decode cX12_next 188 = .ok (.iconst 4, 1) := by decide +kernel
theorem dX12_next_189 : decode cX12_next 189 = .ok (.goto 4, 3) := by decide +kernel
theorem dX12_next_192 : decode cX12_next 192 = .ok (.iconst 0, 1) := by decide +kernel
theorem dX12_next_193 : decode cX12_next 193 = .ok (.putfield 99, 3) := by decide +kernel
theorem dX12_next_196 : decode cX12_next 196 = .ok (.aload_n 0, 1) := by decide +kernel
theorem dX12_next_197 : decode cX12_next 197 = .ok (.aload_n 0, 1) := by decide +kernel
theorem dX12_next_198 : decode cX12_next 198 = .ok (.getfield 90, 3) := by decide +kernel
theorem dX12_next_201 : decode cX12_next 201 = .ok (.putfield 108, 3) := by decide +kernel
end
section
theorem dX12_next_204 : decode cX12_next 204 = .ok (.return_, 1) := by decide +kernel
theorem dX12_begin_0 : decode cX12_begin 0 = .ok (.aload_n 0, 1) := by decide +kernel
theorem dX12_begin_1 : decode cX12_begin 1 = .ok (.aload_n 0, 1) := by decide +kernel
theorem dX12_begin_2 : decode cX12_begin 2 = .ok (.getfield 80, 3) := by decide +kernel
theorem dX12_begin_5 : decode cX12_begin 5 = .ok (.putfield 86, 3) := by decide +kernel
theorem dX12_begin_8 : decode cX12_begin 8 = .ok (.aload_n 0, 1) := by decide +kernel
theorem dX12_begin_9 : decode cX12_begin 9 = .ok (.iconst 0, 1) := by decide +kernel
theorem dX12_begin_10 : decode cX12_begin 10 = .ok (.putfield 80, 3) := by decide +kernel
theorem dX12_begin_13 : decode cX12_begin 13 = .ok (.aload_n 0, 1) := by decide +kernel
theorem dX12_begin_14 : decode cX12_begin 14 = .ok (.iconst 0, 1) := by decide +kernel
theorem dX12_begin_15 : decode cX12_begin 15 = .ok (.putfield 90, 3) := by decide +kernel
theorem dX12_begin_18 : decode cX12_begin 18 = .ok (.aload_n 0, 1) := by decide +kernel
theorem dX12_begin_19 : decode cX12_begin 19 = .ok (.iconst 0, 1) := by decide +kernel
theorem dX12_begin_20 : decode cX12_begin 20 = .ok (.putfield 111, 3) := by decide +kernel
theorem dX12_begin_23 : decode cX12_begin 23 = .ok (.aload_n 0, 1) := by decide +kernel
theorem dX12_begin_24 : decode cX12_begin 24 = .ok (.invokevirtual 114, 3) := by decide +kernel
theorem dX12_begin_27 : decode cX12_begin 27 = .ok (.return_, 1) := by decide +kernel
theorem dX12_bad_0 : decode cX12_bad 0 = .ok (.aload_n 0, 1) := by decide +kernel
theorem dX12_bad_1 : decode cX12_bad 1 = .ok (.getfield 111, 3) := by decide +kernel
theorem dX12_bad_4 : decode cX12_bad 4 = .ok (.ifCond .ne 16, 3) := by decide +kernel
theorem dX12_bad_7 : decode cX12_bad 7 = .ok (.aload_n 0, 1) := by decide +kernel
theorem dX12_bad_8 : decode cX12_bad 8 = .ok (.iload_n 1, 1) := by decide +kernel
theorem dX12_bad_9 : decode cX12_bad 9 = .ok (.putfield 111, 3) := by decide +kernel
theorem dX12_bad_12 : decode cX12_bad 12 = .ok (.aload_n 0, 1) := by decide +kernel
theorem dX12_bad_13 : decode cX12_bad 13 = .ok (.aload_n 0, 1) := by decide +kernel
theorem dX12_bad_14 : decode cX12_bad 14 = .ok (.getfield 96, 3) := by decide +kernel
theorem dX12_bad_17 : decode cX12_bad 17 = .ok (.putfield 117, 3) := by decide +kernel
theorem dX12_bad_20 : decode cX12_bad 20 = .ok (.return_, 1) := by decide +kernel
theorem dX12_must_0 : decode cX12_must 0 = .ok (.iload_n 1, 1) := by decide +kernel
theorem dX12_must_1 : decode cX12_must 1 = .ok (.ifCond .ne 8, 3) := by decide +kernel
theorem dX12_must_4 : decode cX12_must 4 = .ok (.aload_n 0, 1) := by decide +kernel
theorem dX12_must_5 : decode cX12_must 5 = .ok (.iconst 1, 1) := by decide +kernel
theorem dX12_must_6 : decode cX12_must 6 = .ok (.invokevirtual 120, 3) := by decide +kernel
theorem dX12_must_9 : decode cX12_must 9 = .ok (.aload_n 0, 1) := by decide +kernel
theorem dX12_must_10 : decode cX12_must 10 = .ok (.getfield 111, 3) := by decide +kernel
theorem dX12_must_13 : decode cX12_must 13 = .ok (.ifCond .ne 7, 3) := by decide +kernel
theorem dX12_must_16 : decode cX12_must 16 = .ok (.aload_n 0, 1) := by decide +kernel
theorem dX12_must_17 : decode cX12_must 17 = .ok (.invokevirtual 114, 3) := by decide +kernel
theorem dX12_must_20 : decode cX12_must 20 = .ok (.return_, 1) := by decide +kernel
theorem dX12_name_0 : decode cX12_name 0 = .ok (.lconst 0, 1) := by decide +kernel
theorem dX12_name_1 : decode cX12_name 1 = .ok (.lstore_n 1, 1) := by decide +kernel
theorem dX12_name_2 : decode cX12_name 2 = .ok (.aload_n 0, 1) := by decide +kernel
theorem dX12_name_3 : decode cX12_name 3 = .ok (.getfield 96, 3) := by decide +kernel
theorem dX12_name_6 : decode cX12_name 6 = .ok (.istore_n 3, 1) := by decide +kernel
theorem dX12_name_7 : decode cX12_name 7 = .ok (.iload_n 3, 1) := by decide +kernel
theorem dX12_name_8 : decode cX12_name 8 = .ok (.aload_n 0, 1) := by decide +kernel
theorem dX12_name_9 : decode cX12_name 9 = .ok (.getfield 108, 3) := by decide +kernel
theorem dX12_name_12 : decode cX12_name 12 = .ok (.if_icmp .ge 44, 3) := by decide +kernel
theorem dX12_name_15 : decode cX12_name 15 = .ok (.aload_n 0, 1) := by decide +kernel
theorem dX12_name_16 : decode cX12_name 16 = .ok (.getfield 99, 3) := by decide +kernel
theorem dX12_name_19 : decode cX12_name 19 = .ok (.iconst 2, 1) := by decide +kernel
theorem dX12_name_20 : decode cX12_name 20 = .ok (.if_icmp .ne 36, 3) := by decide +kernel
theorem dX12_name_23 : decode cX12_name 23 = .ok (.aload_n 0, 1) := by decide +kernel
theorem dX12_name_24 : decode cX12_name 24 = .ok (.getfield 108, 3) := by decide +kernel
theorem dX12_name_27 : decode cX12_name 27 = .ok (.aload_n 0, 1) := by decide +kernel
theorem dX12_name_28 : decode cX12_name 28 = .ok (.getfield 96, 3) := by decide +kernel
theorem dX12_name_31 : decode cX12_name 31 = .ok (.isub, 1) := by decide +kernel
theorem dX12_name_32 : decode cX12_name 32 = .ok (.bipush 8, 2) := by decide +kernel
theorem dX12_name_34 : decode cX12_name 34 = .ok (.if_icmp .ge 22, 3) := by decide +kernel
theorem dX12_name_37 : decode cX12_name 37 = .ok (.lload_n 1, 1) := by decide +kernel
theorem dX12_name_38 : decode cX12_name 38 = .ok (.bipush 8, 2) := by decide +kernel
theorem dX12_name_40 : decode cX12_name 40 = .ok (.lshl, 1) := by decide +kernel
theorem dX12_name_41 : decode cX12_name 41 = .ok (.aload_n 0, 1) := by decide +kernel
theorem dX12_name_42 : decode cX12_name 42 = .ok (.getfield 25, 3) := by decide +kernel
theorem dX12_name_45 : decode cX12_name 45 = .ok (.iload_n 3, 1) := by decide +kernel
theorem dX12_name_46 : decode cX12_name 46 = .ok (.iaload, 1) := by decide +kernel
theorem dX12_name_47 : decode cX12_name 47 = .ok (.i2l, 1) := by decide +kernel
theorem dX12_name_48 : decode cX12_name 48 = .ok (.lor, 1) := by decide +kernel
theorem dX12_name_49 : decode cX12_name 49 = .ok (.lstore_n 1, 1) := by decide +kernel
theorem dX12_name_50 : decode cX12_name 50 = .ok (.iinc 3 1, 3) := by decide +kernel
theorem dX12_name_53 : decode cX12_name 53 = .ok (.goto (-46), 3) := by decide +kernel
theorem dX12_name_56 : decode cX12_name 56 = .ok (.aload_n 0, 1) := by decide +kernel
theorem dX12_name_57 : decode cX12_name 57 = .ok (.getfield 111, 3) := by decide +kernel
theorem dX12_name_60 : decode cX12_name 60 = .ok (.ifCond .ne 7, 3) := by decide +kernel
theorem dX12_name_63 : decode cX12_name 63 = .ok (.lload_n 1, 1) := by decide +kernel
theorem dX12_name_64 : decode cX12_name 64 = .ok (.goto 4, 3) := by decide +kernel
theorem dX12_name_67 : decode cX12_name 67 = .ok (.lconst 0, 1) := by decide +kernel
theorem dX12_name_68 : decode cX12_name 68 = .ok (.lreturn, 1) := by decide +kernel
theorem dX12_figures_0 : decode cX12_figures 0 = .ok (.iconst 0, 1) := by decide +kernel
theorem dX12_figures_1 : decode cX12_figures 1 = .ok (.istore_n 1, 1) := by decide +kernel
theorem dX12_figures_2 : decode cX12_figures 2 = .ok (.aload_n 0, 1) := by decide +kernel
theorem dX12_figures_3 : decode cX12_figures 3 = .ok (.getfield 96, 3) := by decide +kernel
theorem dX12_figures_6 : decode cX12_figures 6 = .ok (.istore_n 2, 1) := by decide +kernel
theorem dX12_figures_7 : decode cX12_figures 7 = .ok (.iload_n 2, 1) := by decide +kernel
theorem dX12_figures_8 : decode cX12_figures 8 = .ok (.aload_n 0, 1) := by decide +kernel
theorem dX12_figures_9 : decode cX12_figures 9 = .ok (.getfield 108, 3) := by decide +kernel
theorem dX12_figures_12 : decode cX12_figures 12 = .ok (.if_icmp .ge 32, 3) := by decide +kernel
theorem dX12_figures_15 : decode cX12_figures 15 = .ok (.aload_n 0, 1) := by decide +kernel
theorem dX12_figures_16 : decode cX12_figures 16 = .ok (.getfield 99, 3) := by decide +kernel
theorem dX12_figures_19 : decode cX12_figures 19 = .ok (.iconst 3, 1) := by decide +kernel
theorem dX12_figures_20 : decode cX12_figures 20 = .ok (.if_icmp .ne 24, 3) := by decide +kernel
theorem dX12_figures_23 : decode cX12_figures 23 = .ok (.bipush 10, 2) := by decide +kernel
theorem dX12_figures_25 : decode cX12_figures 25 = .ok (.iload_n 1, 1) := by decide +kernel
theorem dX12_figures_26 : decode cX12_figures 26 = .ok (.imul, 1) := by decide +kernel
theorem dX12_figures_27 : decode cX12_figures 27 = .ok (.aload_n 0, 1) := by decide +kernel
theorem dX12_figures_28 : decode cX12_figures 28 = .ok (.getfield 25, 3) := by decide +kernel
theorem dX12_figures_31 : decode cX12_figures 31 = .ok (.iload_n 2, 1) := by decide +kernel
theorem dX12_figures_32 : decode cX12_figures 32 = .ok (.iaload, 1) := by decide +kernel
theorem dX12_figures_33 : decode cX12_figures 33 = .ok (.iadd, 1) := by decide +kernel
theorem dX12_figures_34 : decode cX12_figures 34 = .ok (.bipush 48, 2) := by decide +kernel
theorem dX12_figures_36 : decode cX12_figures 36 = .ok (.isub, 1) := by decide +kernel
theorem dX12_figures_37 : decode cX12_figures 37 = .ok (.istore_n 1, 1) := by decide +kernel
theorem dX12_figures_38 : decode cX12_figures 38 = .ok (.iinc 2 1, 3) := by decide +kernel
theorem dX12_figures_41 : decode cX12_figures 41 = .ok (.goto (-34), 3) := by decide +kernel
theorem dX12_figures_44 : decode cX12_figures 44 = .ok (.iload_n 1, 1) := by decide +kernel
theorem dX12_figures_45 : decode cX12_figures 45 = .ok (.ireturn, 1) := by decide +kernel
theorem dX12_number_0 : decode cX12_number 0 = .ok (.aload_n 0, 1) := by decide +kernel
theorem dX12_number_1 : decode cX12_number 1 = .ok (.getfield 111, 3) := by decide +kernel
theorem dX12_number_4 : decode cX12_number 4 = .ok (.ifCond .le 5, 3) := by decide +kernel
theorem dX12_number_7 : decode cX12_number 7 = .ok (.iconst 0, 1) := by decide +kernel
theorem dX12_number_8 : decode cX12_number 8 = .ok (.ireturn, 1) := by decide +kernel
theorem dX12_number_9 : decode cX12_number 9 = .ok (.aload_n 0, 1) := by decide +kernel
theorem dX12_number_10 : decode cX12_number 10 = .ok (.invokevirtual 124, 3) := by decide +kernel
theorem dX12_number_13 : decode cX12_number 13 = .ok (.istore_n 3, 1) := by decide +kernel
theorem dX12_number_14 : decode cX12_number 14 = .ok (.aload_n 0, 1) := by decide +kernel
theorem dX12_number_15 : decode cX12_number 15 = .ok (.getfield 99, 3) := by decide +kernel
theorem dX12_number_18 : decode cX12_number 18 = .ok (.iconst 3, 1) := by decide +kernel
theorem dX12_number_19 : decode cX12_number 19 = .ok (.if_icmp .ne 20, 3) := by decide +kernel
theorem dX12_number_22 : decode cX12_number 22 = .ok (.iload_n 3, 1) := by decide +kernel
theorem dX12_number_23 : decode cX12_number 23 = .ok (.i2l, 1) := by decide +kernel
theorem dX12_number_24 : decode cX12_number 24 = .ok (.iload_n 1, 1) := by decide +kernel
theorem dX12_number_25 : decode cX12_number 25 = .ok (.i2l, 1) := by decide +kernel
theorem dX12_number_26 : decode cX12_number 26 = .ok (.iload_n 2, 1) := by decide +kernel
theorem dX12_number_27 : decode cX12_number 27 = .ok (.i2l, 1) := by decide +kernel
theorem dX12_number_28 : decode cX12_number 28 = .ok (.invokestatic 63, 3) := by decide +kernel
theorem dX12_number_31 : decode cX12_number 31 = .ok (.ifCond .ne 8, 3) := by decide +kernel
theorem dX12_number_34 : decode cX12_number 34 = .ok (.aload_n 0, 1) := by decide +kernel
theorem dX12_number_35 : decode cX12_number 35 = .ok (.iconst 2, 1) := by decide +kernel
theorem dX12_number_36 : decode cX12_number 36 = .ok (.invokevirtual 120, 3) := by decide +kernel
theorem dX12_number_39 : decode cX12_number 39 = .ok (.aload_n 0, 1) := by decide +kernel
theorem dX12_number_40 : decode cX12_number 40 = .ok (.aload_n 0, 1) := by decide +kernel
theorem dX12_number_41 : decode cX12_number 41 = .ok (.getfield 99, 3) := by decide +kernel
theorem dX12_number_44 : decode cX12_number 44 = .ok (.iconst 3, 1) := by decide +kernel
theorem dX12_number_45 : decode cX12_number 45 = .ok (.if_icmp .ne 7, 3) := by decide +kernel
theorem dX12_number_48 : decode cX12_number 48 = .ok (.iconst 1, 1) := by decide +kernel
theorem dX12_number_49 : decode cX12_number 49 = .ok (.goto 4, 3) := by decide +kernel
theorem dX12_number_52 : decode cX12_number 52 = .ok (.iconst 0, 1) := by decide +kernel
theorem dX12_number_53 : decode cX12_number 53 = .ok (.invokevirtual 128, 3) := by decide +kernel
theorem dX12_number_56 : decode cX12_number 56 = .ok (.iload_n 3, 1) := by decide +kernel
theorem dX12_number_57 : decode cX12_number 57 = .ok (.ireturn, 1) := by decide +kernel
theorem dX12_kindBy_0 : decode cX12_kindBy 0 = .ok (.lload_n 0, 1) := by decide +kernel
theorem dX12_kindBy_1 : decode cX12_kindBy 1 = .ok (.ldc2_w 132, 3) := by decide +kernel
theorem dX12_kindBy_4 : decode cX12_kindBy 4 = .ok (.lcmp, 1) := by decide +kernel
theorem dX12_kindBy_5 : decode cX12_kindBy 5 = .ok (.ifCond .ne 7, 3) := by decide +kernel
theorem dX12_kindBy_8 : decode cX12_kindBy 8 = .ok (.iconst 1, 1) := by decide +kernel
theorem dX12_kindBy_9 : decode cX12_kindBy 9 = .ok (.goto 53, 3) := by decide +kernel
theorem dX12_kindBy_12 : decode cX12_kindBy 12 = .ok (.lload_n 0, 1) := by decide +kernel
theorem dX12_kindBy_13 : decode cX12_kindBy 13 = .ok (.ldc2_w 134, 3) := by decide +kernel
theorem dX12_kindBy_16 : decode cX12_kindBy 16 = .ok (.lcmp, 1) := by decide +kernel
theorem dX12_kindBy_17 : decode cX12_kindBy 17 = .ok (.ifCond .ne 7, 3) := by decide +kernel
theorem dX12_kindBy_20 : decode cX12_kindBy 20 = .ok (.iconst 3, 1) := by decide +kernel
theorem dX12_kindBy_21 : decode cX12_kindBy 21 = .ok (.goto 41, 3) := by decide +kernel
theorem dX12_kindBy_24 : decode cX12_kindBy 24 = .ok (.lload_n 0, 1) := by decide +kernel
theorem dX12_kindBy_25 : decode cX12_kindBy 25 = .ok (.ldc2_w 136, 3) := by decide +kernel
theorem dX12_kindBy_28 : decode cX12_kindBy 28 = .ok (.lcmp, 1) := by decide +kernel
theorem dX12_kindBy_29 : decode cX12_kindBy 29 = .ok (.ifCond .ne 7, 3) := by decide +kernel
theorem dX12_kindBy_32 : decode cX12_kindBy 32 = .ok (.iconst 4, 1) := by decide +kernel
theorem dX12_kindBy_33 : decode cX12_kindBy 33 = .ok (.goto 29, 3) := by decide +kernel
theorem dX12_kindBy_36 : decode cX12_kindBy 36 = .ok (.lload_n 0, 1) := by decide +kernel
theorem dX12_kindBy_37 : decode cX12_kindBy 37 = .ok (.ldc2_w 138, 3) := by decide +kernel
theorem dX12_kindBy_40 : decode cX12_kindBy 40 = .ok (.lcmp, 1) := by decide +kernel
theorem dX12_kindBy_41 : decode cX12_kindBy 41 = .ok (.ifCond .ne 7, 3) := by decide +kernel
theorem dX12_kindBy_44 : decode cX12_kindBy 44 = .ok (.iconst 2, 1) := by decide +kernel
theorem dX12_kindBy_45 : decode cX12_kindBy 45 = .ok (.goto 17, 3) := by decide +kernel
theorem dX12_kindBy_48 : decode cX12_kindBy 48 = .ok (.lload_n 0, 1) := by decide +kernel
theorem dX12_kindBy_49 : decode cX12_kindBy 49 = .ok (.ldc2_w 140, 3) := by decide +kernel
theorem dX12_kindBy_52 : decode cX12_kindBy 52 = .ok (.lcmp, 1) := by decide +kernel
theorem dX12_kindBy_53 : decode cX12_kindBy 53 = .ok (.ifCond .ne 7, 3) := by decide +kernel
theorem dX12_kindBy_56 : decode cX12_kindBy 56 = .ok (.iconst 5, 1) := by decide +kernel
theorem dX12_kindBy_57 : decode cX12_kindBy 57 = .ok (.goto 5, 3) := by decide +kernel
theorem dX12_kindBy_60 : decode cX12_kindBy 60 = .ok (.ldc 89, 2) := by decide +kernel
theorem dX12_kindBy_62 : decode cX12_kindBy 62 = .ok (.ireturn, 1) := by decide +kernel
theorem dX12_mustEnd_0 : decode cX12_mustEnd 0 = .ok (.aload_n 0, 1) := by decide +kernel
theorem dX12_mustEnd_1 : decode cX12_mustEnd 1 = .ok (.getfield 111, 3) := by decide +kernel
theorem dX12_mustEnd_4 : decode cX12_mustEnd 4 = .ok (.ifCond .ne 20, 3) := by decide +kernel
theorem dX12_mustEnd_7 : decode cX12_mustEnd 7 = .ok (.aload_n 0, 1) := by decide +kernel
theorem dX12_mustEnd_8 : decode cX12_mustEnd 8 = .ok (.aload_n 0, 1) := by decide +kernel
theorem dX12_mustEnd_9 : decode cX12_mustEnd 9 = .ok (.getfield 99, 3) := by decide +kernel
theorem dX12_mustEnd_12 : decode cX12_mustEnd 12 = .ok (.iconst 4, 1) := by decide +kernel
theorem dX12_mustEnd_13 : decode cX12_mustEnd 13 = .ok (.if_icmp .ne 7, 3) := by decide +kernel
theorem dX12_mustEnd_16 : decode cX12_mustEnd 16 = .ok (.iconst 1, 1) := by decide +kernel
theorem dX12_mustEnd_17 : decode cX12_mustEnd 17 = .ok (.goto 4, 3) := by decide +kernel
theorem dX12_mustEnd_20 : decode cX12_mustEnd 20 = .ok (.iconst 0, 1) := by decide +kernel
theorem dX12_mustEnd_21 : decode cX12_mustEnd 21 = .ok (.invokevirtual 128, 3) := by decide +kernel
theorem dX12_mustEnd_24 : decode cX12_mustEnd 24 = .ok (.return_, 1) := by decide +kernel
theorem dX12_begins_0 : decode cX12_begins 0 = .ok (.aload_n 0, 1) := by decide +kernel
theorem dX12_begins_1 : decode cX12_begins 1 = .ok (.getfield 22, 3) := by decide +kernel
theorem dX12_begins_4 : decode cX12_begins 4 = .ok (.iload_n 1, 1) := by decide +kernel
theorem dX12_begins_5 : decode cX12_begins 5 = .ok (.iaload, 1) := by decide +kernel
theorem dX12_begins_6 : decode cX12_begins 6 = .ok (.iload_n 2, 1) := by decide +kernel
theorem dX12_begins_7 : decode cX12_begins 7 = .ok (.if_icmp .ne 8, 3) := by decide +kernel
theorem dX12_begins_10 : decode cX12_begins 10 = .ok (.aload_n 0, 1) := by decide +kernel
theorem dX12_begins_11 : decode cX12_begins 11 = .ok (.iconst 3, 1) := by decide +kernel
theorem dX12_begins_12 : decode cX12_begins 12 = .ok (.invokevirtual 120, 3) := by decide +kernel
theorem dX12_begins_15 : decode cX12_begins 15 = .ok (.aload_n 0, 1) := by decide +kernel
theorem dX12_begins_16 : decode cX12_begins 16 = .ok (.iconst 1, 1) := by decide +kernel
theorem dX12_begins_17 : decode cX12_begins 17 = .ok (.invokevirtual 128, 3) := by decide +kernel
theorem dX12_begins_20 : decode cX12_begins 20 = .ok (.return_, 1) := by decide +kernel
theorem dX12_isTold_0 : decode cX12_isTold 0 = .ok (.iconst 0, 1) := by decide +kernel
theorem dX12_isTold_1 : decode cX12_isTold 1 = .ok (.istore_n 3, 1) := by decide +kernel
theorem dX12_isTold_2 : decode cX12_isTold 2 = .ok (.iconst 0, 1) := by decide +kernel
theorem dX12_isTold_3 : decode cX12_isTold 3 = .ok (.istore 4, 2) := by decide +kernel
theorem dX12_isTold_5 : decode cX12_isTold 5 = .ok (.iload 4, 2) := by decide +kernel
theorem dX12_isTold_7 : decode cX12_isTold 7 = .ok (.aload_n 0, 1) := by decide +kernel
theorem dX12_isTold_8 : decode cX12_isTold 8 = .ok (.getfield 22, 3) := by decide +kernel
theorem dX12_isTold_11 : decode cX12_isTold 11 = .ok (.iconst 0, 1) := by decide +kernel
theorem dX12_isTold_12 : decode cX12_isTold 12 = .ok (.iaload, 1) := by decide +kernel
theorem dX12_isTold_13 : decode cX12_isTold 13 = .ok (.if_icmp .ge 53, 3) := by decide +kernel
theorem dX12_isTold_16 : decode cX12_isTold 16 = .ok (.iload_n 3, 1) := by decide +kernel
theorem dX12_isTold_17 : decode cX12_isTold 17 = .ok (.ifCond .ne 37, 3) := by decide +kernel
theorem dX12_isTold_20 : decode cX12_isTold 20 = .ok (.aload_n 0, 1) := by decide +kernel
theorem dX12_isTold_21 : decode cX12_isTold 21 = .ok (.getfield 22, 3) := by decide +kernel
theorem dX12_isTold_24 : decode cX12_isTold 24 = .ok (.bipush 28, 2) := by decide +kernel
theorem dX12_isTold_26 : decode cX12_isTold 26 = .ok (.iconst 3, 1) := by decide +kernel
theorem dX12_isTold_27 : decode cX12_isTold 27 = .ok (.iload 4, 2) := by decide +kernel
theorem dX12_isTold_29 : decode cX12_isTold 29 = .ok (.imul, 1) := by decide +kernel
theorem dX12_isTold_30 : decode cX12_isTold 30 = .ok (.iadd, 1) := by decide +kernel
theorem dX12_isTold_31 : decode cX12_isTold 31 = .ok (.iaload, 1) := by decide +kernel
theorem dX12_isTold_32 : decode cX12_isTold 32 = .ok (.iload_n 1, 1) := by decide +kernel
theorem dX12_isTold_33 : decode cX12_isTold 33 = .ok (.if_icmp .ne 25, 3) := by decide +kernel
theorem dX12_isTold_36 : decode cX12_isTold 36 = .ok (.aload_n 0, 1) := by decide +kernel
theorem dX12_isTold_37 : decode cX12_isTold 37 = .ok (.getfield 22, 3) := by decide +kernel
theorem dX12_isTold_40 : decode cX12_isTold 40 = .ok (.bipush 28, 2) := by decide +kernel
theorem dX12_isTold_42 : decode cX12_isTold 42 = .ok (.iconst 3, 1) := by decide +kernel
theorem dX12_isTold_43 : decode cX12_isTold 43 = .ok (.iload 4, 2) := by decide +kernel
theorem dX12_isTold_45 : decode cX12_isTold 45 = .ok (.imul, 1) := by decide +kernel
theorem dX12_isTold_46 : decode cX12_isTold 46 = .ok (.iadd, 1) := by decide +kernel
theorem dX12_isTold_47 : decode cX12_isTold 47 = .ok (.iconst 1, 1) := by decide +kernel
theorem dX12_isTold_48 : decode cX12_isTold 48 = .ok (.iadd, 1) := by decide +kernel
theorem dX12_isTold_49 : decode cX12_isTold 49 = .ok (.iaload, 1) := by decide +kernel
theorem dX12_isTold_50 : decode cX12_isTold 50 = .ok (.iload_n 2, 1) := by decide +kernel
theorem dX12_isTold_51 : decode cX12_isTold 51 = .ok (.if_icmp .ne 7, 3) := by decide +kernel
theorem dX12_isTold_54 : decode cX12_isTold 54 = .ok (.iconst 1, 1) := by decide +kernel
theorem dX12_isTold_55 : decode cX12_isTold 55 = .ok (.goto 4, 3) := by decide +kernel
theorem dX12_isTold_58 : decode cX12_isTold 58 = .ok (.iconst 0, 1) := by decide +kernel
theorem dX12_isTold_59 : decode cX12_isTold 59 = .ok (.istore_n 3, 1) := by decide +kernel
theorem dX12_isTold_60 : decode cX12_isTold 60 = .ok (.iinc 4 1, 3) := by decide +kernel
theorem dX12_isTold_63 : decode cX12_isTold 63 = .ok (.goto (-58), 3) := by decide +kernel
theorem dX12_isTold_66 : decode cX12_isTold 66 = .ok (.iload_n 3, 1) := by decide +kernel
theorem dX12_isTold_67 : decode cX12_isTold 67 = .ok (.ireturn, 1) := by decide +kernel
theorem dX12_readDay_0 : decode cX12_readDay 0 = .ok (.aload_n 0, 1) := by decide +kernel
theorem dX12_readDay_1 : decode cX12_readDay 1 = .ok (.aload_n 0, 1) := by decide +kernel
theorem dX12_readDay_2 : decode cX12_readDay 2 = .ok (.invokevirtual 142, 3) := by decide +kernel
theorem dX12_readDay_5 : decode cX12_readDay 5 = .ok (.ldc2_w 146, 3) := by decide +kernel
theorem dX12_readDay_8 : decode cX12_readDay 8 = .ok (.lcmp, 1) := by decide +kernel
theorem dX12_readDay_9 : decode cX12_readDay 9 = .ok (.ifCond .ne 7, 3) := by decide +kernel
theorem dX12_readDay_12 : decode cX12_readDay 12 = .ok (.iconst 1, 1) := by decide +kernel
theorem dX12_readDay_13 : decode cX12_readDay 13 = .ok (.goto 4, 3) := by decide +kernel
theorem dX12_readDay_16 : decode cX12_readDay 16 = .ok (.iconst 0, 1) := by decide +kernel
theorem dX12_readDay_17 : decode cX12_readDay 17 = .ok (.invokevirtual 128, 3) := by decide +kernel
theorem dX12_readDay_20 : decode cX12_readDay 20 = .ok (.iconst 0, 1) := by decide +kernel
theorem dX12_readDay_21 : decode cX12_readDay 21 = .ok (.istore_n 1, 1) := by decide +kernel
theorem dX12_readDay_22 : decode cX12_readDay 22 = .ok (.iload_n 1, 1) := by decide +kernel
theorem dX12_readDay_23 : decode cX12_readDay 23 = .ok (.bipush 24, 2) := by decide +kernel
theorem dX12_readDay_25 : decode cX12_readDay 25 = .ok (.if_icmp .ge 24, 3) := by decide +kernel
theorem dX12_readDay_28 : decode cX12_readDay 28 = .ok (.aload_n 0, 1) := by decide +kernel
theorem dX12_readDay_29 : decode cX12_readDay 29 = .ok (.getfield 22, 3) := by decide +kernel
theorem dX12_readDay_32 : decode cX12_readDay 32 = .ok (.iconst 4, 1) := by decide +kernel
theorem dX12_readDay_33 : decode cX12_readDay 33 = .ok (.iload_n 1, 1) := by decide +kernel
theorem dX12_readDay_34 : decode cX12_readDay 34 = .ok (.iadd, 1) := by decide +kernel
theorem dX12_readDay_35 : decode cX12_readDay 35 = .ok (.aload_n 0, 1) := by decide +kernel
theorem dX12_readDay_36 : decode cX12_readDay 36 = .ok (.iconst 0, 1) := by decide +kernel
theorem dX12_readDay_37 : decode cX12_readDay 37 = .ok (.bipush 99, 2) := by decide +kernel
theorem dX12_readDay_39 : decode cX12_readDay 39 = .ok (.invokevirtual 148, 3) := by decide +kernel
theorem dX12_readDay_42 : decode cX12_readDay 42 = .ok (.iastore, 1) := by decide +kernel
theorem dX12_readDay_43 : decode cX12_readDay 43 = .ok (.iinc 1 1, 3) := by decide +kernel
theorem dX12_readDay_46 : decode cX12_readDay 46 = .ok (.goto (-24), 3) := by decide +kernel
theorem dX12_readDay_49 : decode cX12_readDay 49 = .ok (.aload_n 0, 1) := by decide +kernel
theorem dX12_readDay_50 : decode cX12_readDay 50 = .ok (.invokevirtual 152, 3) := by decide +kernel
theorem dX12_readDay_53 : decode cX12_readDay 53 = .ok (.return_, 1) := by decide +kernel
theorem dX12_readLine_0 : decode cX12_readLine 0 = .ok (.aload_n 0, 1) := by decide +kernel
theorem dX12_readLine_1 : decode cX12_readLine 1 = .ok (.iconst 0, 1) := by decide +kernel
theorem dX12_readLine_2 : decode cX12_readLine 2 = .ok (.bipush 8, 2) := by decide +kernel
theorem dX12_readLine_4 : decode cX12_readLine 4 = .ok (.invokevirtual 155, 3) := by decide +kernel
theorem dX12_readLine_7 : decode cX12_readLine 7 = .ok (.aload_n 0, 1) := by decide +kernel
theorem dX12_readLine_8 : decode cX12_readLine 8 = .ok (.iconst 0, 1) := by decide +kernel
theorem dX12_readLine_9 : decode cX12_readLine 9 = .ok (.bipush 9, 2) := by decide +kernel
theorem dX12_readLine_11 : decode cX12_readLine 11 = .ok (.invokevirtual 148, 3) := by decide +kernel
theorem dX12_readLine_14 : decode cX12_readLine 14 = .ok (.istore_n 1, 1) := by decide +kernel
theorem dX12_readLine_15 : decode cX12_readLine 15 = .ok (.aload_n 0, 1) := by decide +kernel
theorem dX12_readLine_16 : decode cX12_readLine 16 = .ok (.getfield 111, 3) := by decide +kernel
theorem dX12_readLine_19 : decode cX12_readLine 19 = .ok (.ifCond .ne 28, 3) := by decide +kernel
theorem dX12_readLine_22 : decode cX12_readLine 22 = .ok (.aload_n 0, 1) := by decide +kernel
theorem dX12_readLine_23 : decode cX12_readLine 23 = .ok (.getfield 99, 3) := by decide +kernel
theorem dX12_readLine_26 : decode cX12_readLine 26 = .ok (.iconst 3, 1) := by decide +kernel
theorem dX12_readLine_27 : decode cX12_readLine 27 = .ok (.if_icmp .ne 20, 3) := by decide +kernel
theorem dX12_readLine_30 : decode cX12_readLine 30 = .ok (.aload_n 0, 1) := by decide +kernel
theorem dX12_readLine_31 : decode cX12_readLine 31 = .ok (.iload_n 1, 1) := by decide +kernel
theorem dX12_readLine_32 : decode cX12_readLine 32 = .ok (.aload_n 0, 1) := by decide +kernel
theorem dX12_readLine_33 : decode cX12_readLine 33 = .ok (.invokevirtual 124, 3) := by decide +kernel
theorem dX12_readLine_36 : decode cX12_readLine 36 = .ok (.invokevirtual 159, 3) := by decide +kernel
theorem dX12_readLine_39 : decode cX12_readLine 39 = .ok (.ifCond .eq 8, 3) := by decide +kernel
theorem dX12_readLine_42 : decode cX12_readLine 42 = .ok (.aload_n 0, 1) := by decide +kernel
theorem dX12_readLine_43 : decode cX12_readLine 43 = .ok (.iconst 2, 1) := by decide +kernel
theorem dX12_readLine_44 : decode cX12_readLine 44 = .ok (.invokevirtual 120, 3) := by decide +kernel
theorem dX12_readLine_47 : decode cX12_readLine 47 = .ok (.aload_n 0, 1) := by decide +kernel
theorem dX12_readLine_48 : decode cX12_readLine 48 = .ok (.iconst 0, 1) := by decide +kernel
theorem dX12_readLine_49 : decode cX12_readLine 49 = .ok (.iconst 3, 1) := by decide +kernel
theorem dX12_readLine_50 : decode cX12_readLine 50 = .ok (.invokevirtual 148, 3) := by decide +kernel
theorem dX12_readLine_53 : decode cX12_readLine 53 = .ok (.istore_n 2, 1) := by decide +kernel
theorem dX12_readLine_54 : decode cX12_readLine 54 = .ok (.aload_n 0, 1) := by decide +kernel
theorem dX12_readLine_55 : decode cX12_readLine 55 = .ok (.iconst 1, 1) := by decide +kernel
theorem dX12_readLine_56 : decode cX12_readLine 56 = .ok (.bipush 9, 2) := by decide +kernel
theorem dX12_readLine_58 : decode cX12_readLine 58 = .ok (.invokevirtual 148, 3) := by decide +kernel
theorem dX12_readLine_61 : decode cX12_readLine 61 = .ok (.istore_n 3, 1) := by decide +kernel
theorem dX12_readLine_62 : decode cX12_readLine 62 = .ok (.aload_n 0, 1) := by decide +kernel
theorem dX12_readLine_63 : decode cX12_readLine 63 = .ok (.invokevirtual 152, 3) := by decide +kernel
theorem dX12_readLine_66 : decode cX12_readLine 66 = .ok (.aload_n 0, 1) := by decide +kernel
theorem dX12_readLine_67 : decode cX12_readLine 67 = .ok (.getfield 111, 3) := by decide +kernel
theorem dX12_readLine_70 : decode cX12_readLine 70 = .ok (.ifCond .ne 54, 3) := by decide +kernel
theorem dX12_readLine_73 : decode cX12_readLine 73 = .ok (.bipush 28, 2) := by decide +kernel
theorem dX12_readLine_75 : decode cX12_readLine 75 = .ok (.iconst 3, 1) := by decide +kernel
theorem dX12_readLine_76 : decode cX12_readLine 76 = .ok (.aload_n 0, 1) := by decide +kernel
theorem dX12_readLine_77 : decode cX12_readLine 77 = .ok (.getfield 22, 3) := by decide +kernel
theorem dX12_readLine_80 : decode cX12_readLine 80 = .ok (.iconst 0, 1) := by decide +kernel
theorem dX12_readLine_81 : decode cX12_readLine 81 = .ok (.iaload, 1) := by decide +kernel
theorem dX12_readLine_82 : decode cX12_readLine 82 = .ok (.imul, 1) := by decide +kernel
theorem dX12_readLine_83 : decode cX12_readLine 83 = .ok (.iadd, 1) := by decide +kernel
theorem dX12_readLine_84 : decode cX12_readLine 84 = .ok (.istore 4, 2) := by decide +kernel
theorem dX12_readLine_86 : decode cX12_readLine 86 = .ok (.aload_n 0, 1) := by decide +kernel
theorem dX12_readLine_87 : decode cX12_readLine 87 = .ok (.getfield 22, 3) := by decide +kernel
theorem dX12_readLine_90 : decode cX12_readLine 90 = .ok (.iload 4, 2) := by decide +kernel
theorem dX12_readLine_92 : decode cX12_readLine 92 = .ok (.iload_n 1, 1) := by decide +kernel
theorem dX12_readLine_93 : decode cX12_readLine 93 = .ok (.iastore, 1) := by decide +kernel
theorem dX12_readLine_94 : decode cX12_readLine 94 = .ok (.aload_n 0, 1) := by decide +kernel
theorem dX12_readLine_95 : decode cX12_readLine 95 = .ok (.getfield 22, 3) := by decide +kernel
theorem dX12_readLine_98 : decode cX12_readLine 98 = .ok (.iload 4, 2) := by decide +kernel
theorem dX12_readLine_100 : decode cX12_readLine 100 = .ok (.iconst 1, 1) := by decide +kernel
theorem dX12_readLine_101 : decode cX12_readLine 101 = .ok (.iadd, 1) := by decide +kernel
theorem dX12_readLine_102 : decode cX12_readLine 102 = .ok (.iload_n 2, 1) := by decide +kernel
theorem dX12_readLine_103 : decode cX12_readLine 103 = .ok (.iastore, 1) := by decide +kernel
theorem dX12_readLine_104 : decode cX12_readLine 104 = .ok (.aload_n 0, 1) := by decide +kernel
theorem dX12_readLine_105 : decode cX12_readLine 105 = .ok (.getfield 22, 3) := by decide +kernel
theorem dX12_readLine_108 : decode cX12_readLine 108 = .ok (.iload 4, 2) := by decide +kernel
theorem dX12_readLine_110 : decode cX12_readLine 110 = .ok (.iconst 2, 1) := by decide +kernel
theorem dX12_readLine_111 : decode cX12_readLine 111 = .ok (.iadd, 1) := by decide +kernel
theorem dX12_readLine_112 : decode cX12_readLine 112 = .ok (.iload_n 3, 1) := by decide +kernel
theorem dX12_readLine_113 : decode cX12_readLine 113 = .ok (.iastore, 1) := by decide +kernel
theorem dX12_readLine_114 : decode cX12_readLine 114 = .ok (.aload_n 0, 1) := by decide +kernel
theorem dX12_readLine_115 : decode cX12_readLine 115 = .ok (.getfield 22, 3) := by decide +kernel
theorem dX12_readLine_118 : decode cX12_readLine 118 = .ok (.iconst 0, 1) := by decide +kernel
theorem dX12_readLine_119 : decode cX12_readLine 119 = .ok (.dup2, 1) := by decide +kernel
theorem dX12_readLine_120 : decode cX12_readLine 120 = .ok (.iaload, 1) := by decide +kernel
theorem dX12_readLine_121 : decode cX12_readLine 121 = .ok (.iconst 1, 1) := by decide +kernel
theorem dX12_readLine_122 : decode cX12_readLine 122 = .ok (.iadd, 1) := by decide +kernel
theorem dX12_readLine_123 : decode cX12_readLine 123 = .ok (.iastore, 1) := by decide +kernel
theorem dX12_readLine_124 : decode cX12_readLine 124 = .ok (.return_, 1) := by decide +kernel
theorem dX12_readRight_0 : decode cX12_readRight 0 = .ok (.aload_n 0, 1) := by decide +kernel
theorem dX12_readRight_1 : decode cX12_readRight 1 = .ok (.iconst 1, 1) := by decide +kernel
theorem dX12_readRight_2 : decode cX12_readRight 2 = .ok (.bipush 8, 2) := by decide +kernel
theorem dX12_readRight_4 : decode cX12_readRight 4 = .ok (.invokevirtual 155, 3) := by decide +kernel
theorem dX12_readRight_7 : decode cX12_readRight 7 = .ok (.aload_n 0, 1) := by decide +kernel
theorem dX12_readRight_8 : decode cX12_readRight 8 = .ok (.iconst 0, 1) := by decide +kernel
theorem dX12_readRight_9 : decode cX12_readRight 9 = .ok (.aload_n 0, 1) := by decide +kernel
theorem dX12_readRight_10 : decode cX12_readRight 10 = .ok (.getfield 22, 3) := by decide +kernel
theorem dX12_readRight_13 : decode cX12_readRight 13 = .ok (.iconst 0, 1) := by decide +kernel
theorem dX12_readRight_14 : decode cX12_readRight 14 = .ok (.iaload, 1) := by decide +kernel
theorem dX12_readRight_15 : decode cX12_readRight 15 = .ok (.iconst 1, 1) := by decide +kernel
theorem dX12_readRight_16 : decode cX12_readRight 16 = .ok (.isub, 1) := by decide +kernel
theorem dX12_readRight_17 : decode cX12_readRight 17 = .ok (.invokevirtual 148, 3) := by decide +kernel
theorem dX12_readRight_20 : decode cX12_readRight 20 = .ok (.istore_n 1, 1) := by decide +kernel
theorem dX12_readRight_21 : decode cX12_readRight 21 = .ok (.aload_n 0, 1) := by decide +kernel
theorem dX12_readRight_22 : decode cX12_readRight 22 = .ok (.iconst 0, 1) := by decide +kernel
theorem dX12_readRight_23 : decode cX12_readRight 23 = .ok (.bipush 23, 2) := by decide +kernel
theorem dX12_readRight_25 : decode cX12_readRight 25 = .ok (.invokevirtual 148, 3) := by decide +kernel
theorem dX12_readRight_28 : decode cX12_readRight 28 = .ok (.istore_n 2, 1) := by decide +kernel
theorem dX12_readRight_29 : decode cX12_readRight 29 = .ok (.aload_n 0, 1) := by decide +kernel
theorem dX12_readRight_30 : decode cX12_readRight 30 = .ok (.iload_n 2, 1) := by decide +kernel
theorem dX12_readRight_31 : decode cX12_readRight 31 = .ok (.bipush 23, 2) := by decide +kernel
theorem dX12_readRight_33 : decode cX12_readRight 33 = .ok (.invokevirtual 148, 3) := by decide +kernel
theorem dX12_readRight_36 : decode cX12_readRight 36 = .ok (.istore_n 3, 1) := by decide +kernel
theorem dX12_readRight_37 : decode cX12_readRight 37 = .ok (.aload_n 0, 1) := by decide +kernel
theorem dX12_readRight_38 : decode cX12_readRight 38 = .ok (.iconst 0, 1) := by decide +kernel
theorem dX12_readRight_39 : decode cX12_readRight 39 = .ok (.iconst 5, 1) := by decide +kernel
theorem dX12_readRight_40 : decode cX12_readRight 40 = .ok (.invokevirtual 148, 3) := by decide +kernel
theorem dX12_readRight_43 : decode cX12_readRight 43 = .ok (.istore 4, 2) := by decide +kernel
theorem dX12_readRight_45 : decode cX12_readRight 45 = .ok (.aload_n 0, 1) := by decide +kernel
theorem dX12_readRight_46 : decode cX12_readRight 46 = .ok (.invokevirtual 152, 3) := by decide +kernel
theorem dX12_readRight_49 : decode cX12_readRight 49 = .ok (.aload_n 0, 1) := by decide +kernel
theorem dX12_readRight_50 : decode cX12_readRight 50 = .ok (.getfield 111, 3) := by decide +kernel
theorem dX12_readRight_53 : decode cX12_readRight 53 = .ok (.ifCond .ne 65, 3) := by decide +kernel
theorem dX12_readRight_56 : decode cX12_readRight 56 = .ok (.bipush 52, 2) := by decide +kernel
theorem dX12_readRight_58 : decode cX12_readRight 58 = .ok (.iconst 4, 1) := by decide +kernel
theorem dX12_readRight_59 : decode cX12_readRight 59 = .ok (.aload_n 0, 1) := by decide +kernel
theorem dX12_readRight_60 : decode cX12_readRight 60 = .ok (.getfield 22, 3) := by decide +kernel
theorem dX12_readRight_63 : decode cX12_readRight 63 = .ok (.iconst 1, 1) := by decide +kernel
theorem dX12_readRight_64 : decode cX12_readRight 64 = .ok (.iaload, 1) := by decide +kernel
theorem dX12_readRight_65 : decode cX12_readRight 65 = .ok (.imul, 1) := by decide +kernel
theorem dX12_readRight_66 : decode cX12_readRight 66 = .ok (.iadd, 1) := by decide +kernel
theorem dX12_readRight_67 : decode cX12_readRight 67 = .ok (.istore 5, 2) := by decide +kernel
theorem dX12_readRight_69 : decode cX12_readRight 69 = .ok (.aload_n 0, 1) := by decide +kernel
theorem dX12_readRight_70 : decode cX12_readRight 70 = .ok (.getfield 22, 3) := by decide +kernel
theorem dX12_readRight_73 : decode cX12_readRight 73 = .ok (.iload 5, 2) := by decide +kernel
theorem dX12_readRight_75 : decode cX12_readRight 75 = .ok (.iload_n 1, 1) := by decide +kernel
theorem dX12_readRight_76 : decode cX12_readRight 76 = .ok (.iastore, 1) := by decide +kernel
theorem dX12_readRight_77 : decode cX12_readRight 77 = .ok (.aload_n 0, 1) := by decide +kernel
theorem dX12_readRight_78 : decode cX12_readRight 78 = .ok (.getfield 22, 3) := by decide +kernel
theorem dX12_readRight_81 : decode cX12_readRight 81 = .ok (.iload 5, 2) := by decide +kernel
theorem dX12_readRight_83 : decode cX12_readRight 83 = .ok (.iconst 1, 1) := by decide +kernel
theorem dX12_readRight_84 : decode cX12_readRight 84 = .ok (.iadd, 1) := by decide +kernel
theorem dX12_readRight_85 : decode cX12_readRight 85 = .ok (.iload_n 2, 1) := by decide +kernel
theorem dX12_readRight_86 : decode cX12_readRight 86 = .ok (.iastore, 1) := by decide +kernel
theorem dX12_readRight_87 : decode cX12_readRight 87 = .ok (.aload_n 0, 1) := by decide +kernel
theorem dX12_readRight_88 : decode cX12_readRight 88 = .ok (.getfield 22, 3) := by decide +kernel
theorem dX12_readRight_91 : decode cX12_readRight 91 = .ok (.iload 5, 2) := by decide +kernel
theorem dX12_readRight_93 : decode cX12_readRight 93 = .ok (.iconst 2, 1) := by decide +kernel
theorem dX12_readRight_94 : decode cX12_readRight 94 = .ok (.iadd, 1) := by decide +kernel
theorem dX12_readRight_95 : decode cX12_readRight 95 = .ok (.iload_n 3, 1) := by decide +kernel
theorem dX12_readRight_96 : decode cX12_readRight 96 = .ok (.iastore, 1) := by decide +kernel
theorem dX12_readRight_97 : decode cX12_readRight 97 = .ok (.aload_n 0, 1) := by decide +kernel
theorem dX12_readRight_98 : decode cX12_readRight 98 = .ok (.getfield 22, 3) := by decide +kernel
theorem dX12_readRight_101 : decode cX12_readRight 101 = .ok (.iload 5, 2) := by decide +kernel
theorem dX12_readRight_103 : decode cX12_readRight 103 = .ok (.iconst 3, 1) := by decide +kernel
theorem dX12_readRight_104 : decode cX12_readRight 104 = .ok (.iadd, 1) := by decide +kernel
theorem dX12_readRight_105 : decode cX12_readRight 105 = .ok (.iload 4, 2) := by decide +kernel
theorem dX12_readRight_107 : decode cX12_readRight 107 = .ok (.iastore, 1) := by decide +kernel
theorem dX12_readRight_108 : decode cX12_readRight 108 = .ok (.aload_n 0, 1) := by decide +kernel
theorem dX12_readRight_109 : decode cX12_readRight 109 = .ok (.getfield 22, 3) := by decide +kernel
theorem dX12_readRight_112 : decode cX12_readRight 112 = .ok (.iconst 1, 1) := by decide +kernel
theorem dX12_readRight_113 : decode cX12_readRight 113 = .ok (.dup2, 1) := by decide +kernel
theorem dX12_readRight_114 : decode cX12_readRight 114 = .ok (.iaload, 1) := by decide +kernel
theorem dX12_readRight_115 : decode cX12_readRight 115 = .ok (.iconst 1, 1) := by decide +kernel
theorem dX12_readRight_116 : decode cX12_readRight 116 = .ok (.iadd, 1) := by decide +kernel
theorem dX12_readRight_117 : decode cX12_readRight 117 = .ok (.iastore, 1) := by decide +kernel
theorem dX12_readRight_118 : decode cX12_readRight 118 = .ok (.return_, 1) := by decide +kernel
theorem dX12_readPiece_0 : decode cX12_readPiece 0 = .ok (.aload_n 0, 1) := by decide +kernel
theorem dX12_readPiece_1 : decode cX12_readPiece 1 = .ok (.iconst 2, 1) := by decide +kernel
theorem dX12_readPiece_2 : decode cX12_readPiece 2 = .ok (.bipush 10, 2) := by decide +kernel
theorem dX12_readPiece_4 : decode cX12_readPiece 4 = .ok (.invokevirtual 155, 3) := by decide +kernel
theorem dX12_readPiece_7 : decode cX12_readPiece 7 = .ok (.aload_n 0, 1) := by decide +kernel
theorem dX12_readPiece_8 : decode cX12_readPiece 8 = .ok (.invokevirtual 142, 3) := by decide +kernel
theorem dX12_readPiece_11 : decode cX12_readPiece 11 = .ok (.invokestatic 163, 3) := by decide +kernel
theorem dX12_readPiece_14 : decode cX12_readPiece 14 = .ok (.istore_n 1, 1) := by decide +kernel
theorem dX12_readPiece_15 : decode cX12_readPiece 15 = .ok (.aload_n 0, 1) := by decide +kernel
theorem dX12_readPiece_16 : decode cX12_readPiece 16 = .ok (.getfield 111, 3) := by decide +kernel
theorem dX12_readPiece_19 : decode cX12_readPiece 19 = .ok (.ifCond .ne 18, 3) := by decide +kernel
theorem dX12_readPiece_22 : decode cX12_readPiece 22 = .ok (.aload_n 0, 1) := by decide +kernel
theorem dX12_readPiece_23 : decode cX12_readPiece 23 = .ok (.iload_n 1, 1) := by decide +kernel
theorem dX12_readPiece_24 : decode cX12_readPiece 24 = .ok (.ldc 89, 2) := by decide +kernel
theorem dX12_readPiece_26 : decode cX12_readPiece 26 = .ok (.if_icmp .eq 7, 3) := by decide +kernel
theorem dX12_readPiece_29 : decode cX12_readPiece 29 = .ok (.iconst 1, 1) := by decide +kernel
theorem dX12_readPiece_30 : decode cX12_readPiece 30 = .ok (.goto 4, 3) := by decide +kernel
theorem dX12_readPiece_33 : decode cX12_readPiece 33 = .ok (.iconst 0, 1) := by decide +kernel
theorem dX12_readPiece_34 : decode cX12_readPiece 34 = .ok (.invokevirtual 128, 3) := by decide +kernel
theorem dX12_readPiece_37 : decode cX12_readPiece 37 = .ok (.aload_n 0, 1) := by decide +kernel
theorem dX12_readPiece_38 : decode cX12_readPiece 38 = .ok (.iconst 0, 1) := by decide +kernel
theorem dX12_readPiece_39 : decode cX12_readPiece 39 = .ok (.iconst 5, 1) := by decide +kernel
theorem dX12_readPiece_40 : decode cX12_readPiece 40 = .ok (.invokevirtual 148, 3) := by decide +kernel
theorem dX12_readPiece_43 : decode cX12_readPiece 43 = .ok (.istore_n 2, 1) := by decide +kernel
theorem dX12_readPiece_44 : decode cX12_readPiece 44 = .ok (.aload_n 0, 1) := by decide +kernel
theorem dX12_readPiece_45 : decode cX12_readPiece 45 = .ok (.iconst 0, 1) := by decide +kernel
theorem dX12_readPiece_46 : decode cX12_readPiece 46 = .ok (.bipush 99, 2) := by decide +kernel
theorem dX12_readPiece_48 : decode cX12_readPiece 48 = .ok (.invokevirtual 148, 3) := by decide +kernel
theorem dX12_readPiece_51 : decode cX12_readPiece 51 = .ok (.istore_n 3, 1) := by decide +kernel
theorem dX12_readPiece_52 : decode cX12_readPiece 52 = .ok (.aload_n 0, 1) := by decide +kernel
theorem dX12_readPiece_53 : decode cX12_readPiece 53 = .ok (.iconst 1, 1) := by decide +kernel
theorem dX12_readPiece_54 : decode cX12_readPiece 54 = .ok (.bipush 9, 2) := by decide +kernel
theorem dX12_readPiece_56 : decode cX12_readPiece 56 = .ok (.invokevirtual 148, 3) := by decide +kernel
theorem dX12_readPiece_59 : decode cX12_readPiece 59 = .ok (.istore 4, 2) := by decide +kernel
theorem dX12_readPiece_61 : decode cX12_readPiece 61 = .ok (.aload_n 0, 1) := by decide +kernel
theorem dX12_readPiece_62 : decode cX12_readPiece 62 = .ok (.invokevirtual 152, 3) := by decide +kernel
theorem dX12_readPiece_65 : decode cX12_readPiece 65 = .ok (.aload_n 0, 1) := by decide +kernel
theorem dX12_readPiece_66 : decode cX12_readPiece 66 = .ok (.getfield 111, 3) := by decide +kernel
theorem dX12_readPiece_69 : decode cX12_readPiece 69 = .ok (.ifCond .ne 77, 3) := by decide +kernel
theorem dX12_readPiece_72 : decode cX12_readPiece 72 = .ok (.bipush 84, 2) := by decide +kernel
theorem dX12_readPiece_74 : decode cX12_readPiece 74 = .ok (.bipush 6, 2) := by decide +kernel
theorem dX12_readPiece_76 : decode cX12_readPiece 76 = .ok (.aload_n 0, 1) := by decide +kernel
theorem dX12_readPiece_77 : decode cX12_readPiece 77 = .ok (.getfield 22, 3) := by decide +kernel
theorem dX12_readPiece_80 : decode cX12_readPiece 80 = .ok (.iconst 2, 1) := by decide +kernel
theorem dX12_readPiece_81 : decode cX12_readPiece 81 = .ok (.iaload, 1) := by decide +kernel
theorem dX12_readPiece_82 : decode cX12_readPiece 82 = .ok (.imul, 1) := by decide +kernel
theorem dX12_readPiece_83 : decode cX12_readPiece 83 = .ok (.iadd, 1) := by decide +kernel
theorem dX12_readPiece_84 : decode cX12_readPiece 84 = .ok (.istore 5, 2) := by decide +kernel
theorem dX12_readPiece_86 : decode cX12_readPiece 86 = .ok (.aload_n 0, 1) := by decide +kernel
theorem dX12_readPiece_87 : decode cX12_readPiece 87 = .ok (.getfield 22, 3) := by decide +kernel
theorem dX12_readPiece_90 : decode cX12_readPiece 90 = .ok (.iload 5, 2) := by decide +kernel
theorem dX12_readPiece_92 : decode cX12_readPiece 92 = .ok (.iload_n 1, 1) := by decide +kernel
theorem dX12_readPiece_93 : decode cX12_readPiece 93 = .ok (.iastore, 1) := by decide +kernel
theorem dX12_readPiece_94 : decode cX12_readPiece 94 = .ok (.aload_n 0, 1) := by decide +kernel
theorem dX12_readPiece_95 : decode cX12_readPiece 95 = .ok (.getfield 22, 3) := by decide +kernel
theorem dX12_readPiece_98 : decode cX12_readPiece 98 = .ok (.iload 5, 2) := by decide +kernel
theorem dX12_readPiece_100 : decode cX12_readPiece 100 = .ok (.iconst 1, 1) := by decide +kernel
theorem dX12_readPiece_101 : decode cX12_readPiece 101 = .ok (.iadd, 1) := by decide +kernel
theorem dX12_readPiece_102 : decode cX12_readPiece 102 = .ok (.iload_n 2, 1) := by decide +kernel
theorem dX12_readPiece_103 : decode cX12_readPiece 103 = .ok (.iastore, 1) := by decide +kernel
theorem dX12_readPiece_104 : decode cX12_readPiece 104 = .ok (.aload_n 0, 1) := by decide +kernel
theorem dX12_readPiece_105 : decode cX12_readPiece 105 = .ok (.getfield 22, 3) := by decide +kernel
theorem dX12_readPiece_108 : decode cX12_readPiece 108 = .ok (.iload 5, 2) := by decide +kernel
theorem dX12_readPiece_110 : decode cX12_readPiece 110 = .ok (.iconst 2, 1) := by decide +kernel
theorem dX12_readPiece_111 : decode cX12_readPiece 111 = .ok (.iadd, 1) := by decide +kernel
theorem dX12_readPiece_112 : decode cX12_readPiece 112 = .ok (.iload_n 3, 1) := by decide +kernel
theorem dX12_readPiece_113 : decode cX12_readPiece 113 = .ok (.iastore, 1) := by decide +kernel
theorem dX12_readPiece_114 : decode cX12_readPiece 114 = .ok (.aload_n 0, 1) := by decide +kernel
theorem dX12_readPiece_115 : decode cX12_readPiece 115 = .ok (.getfield 22, 3) := by decide +kernel
theorem dX12_readPiece_118 : decode cX12_readPiece 118 = .ok (.iload 5, 2) := by decide +kernel
theorem dX12_readPiece_120 : decode cX12_readPiece 120 = .ok (.iconst 3, 1) := by decide +kernel
theorem dX12_readPiece_121 : decode cX12_readPiece 121 = .ok (.iadd, 1) := by decide +kernel
theorem dX12_readPiece_122 : decode cX12_readPiece 122 = .ok (.iload 4, 2) := by decide +kernel
theorem dX12_readPiece_124 : decode cX12_readPiece 124 = .ok (.iastore, 1) := by decide +kernel
theorem dX12_readPiece_125 : decode cX12_readPiece 125 = .ok (.aload_n 0, 1) := by decide +kernel
theorem dX12_readPiece_126 : decode cX12_readPiece 126 = .ok (.getfield 22, 3) := by decide +kernel
theorem dX12_readPiece_129 : decode cX12_readPiece 129 = .ok (.iload 5, 2) := by decide +kernel
theorem dX12_readPiece_131 : decode cX12_readPiece 131 = .ok (.iconst 4, 1) := by decide +kernel
theorem dX12_readPiece_132 : decode cX12_readPiece 132 = .ok (.iadd, 1) := by decide +kernel
theorem dX12_readPiece_133 : decode cX12_readPiece 133 = .ok (.ldc 89, 2) := by decide +kernel
theorem dX12_readPiece_135 : decode cX12_readPiece 135 = .ok (.iastore, 1) := by decide +kernel
theorem dX12_readPiece_136 : decode cX12_readPiece 136 = .ok (.aload_n 0, 1) := by decide +kernel
theorem dX12_readPiece_137 : decode cX12_readPiece 137 = .ok (.getfield 22, 3) := by decide +kernel
theorem dX12_readPiece_140 : decode cX12_readPiece 140 = .ok (.iconst 2, 1) := by decide +kernel
theorem dX12_readPiece_141 : decode cX12_readPiece 141 = .ok (.dup2, 1) := by decide +kernel
theorem dX12_readPiece_142 : decode cX12_readPiece 142 = .ok (.iaload, 1) := by decide +kernel
theorem dX12_readPiece_143 : decode cX12_readPiece 143 = .ok (.iconst 1, 1) := by decide +kernel
theorem dX12_readPiece_144 : decode cX12_readPiece 144 = .ok (.iadd, 1) := by decide +kernel
theorem dX12_readPiece_145 : decode cX12_readPiece 145 = .ok (.iastore, 1) := by decide +kernel
theorem dX12_readPiece_146 : decode cX12_readPiece 146 = .ok (.return_, 1) := by decide +kernel
theorem dX12_court_0 : decode cX12_court 0 = .ok (.aload_n 0, 1) := by decide +kernel
theorem dX12_court_1 : decode cX12_court 1 = .ok (.iconst 0, 1) := by decide +kernel
theorem dX12_court_2 : decode cX12_court 2 = .ok (.putfield 53, 3) := by decide +kernel
theorem dX12_court_5 : decode cX12_court 5 = .ok (.aload_n 0, 1) := by decide +kernel
theorem dX12_court_6 : decode cX12_court 6 = .ok (.invokevirtual 167, 3) := by decide +kernel
theorem dX12_court_9 : decode cX12_court 9 = .ok (.iconst 0, 1) := by decide +kernel
theorem dX12_court_10 : decode cX12_court 10 = .ok (.istore_n 1, 1) := by decide +kernel
theorem dX12_court_11 : decode cX12_court 11 = .ok (.iload_n 1, 1) := by decide +kernel
theorem dX12_court_12 : decode cX12_court 12 = .ok (.sipush 144, 3) := by decide +kernel
theorem dX12_court_15 : decode cX12_court 15 = .ok (.if_icmp .ge 16, 3) := by decide +kernel
theorem dX12_court_18 : decode cX12_court 18 = .ok (.aload_n 0, 1) := by decide +kernel
theorem dX12_court_19 : decode cX12_court 19 = .ok (.getfield 22, 3) := by decide +kernel
theorem dX12_court_22 : decode cX12_court 22 = .ok (.iload_n 1, 1) := by decide +kernel
theorem dX12_court_23 : decode cX12_court 23 = .ok (.iconst 0, 1) := by decide +kernel
theorem dX12_court_24 : decode cX12_court 24 = .ok (.iastore, 1) := by decide +kernel
theorem dX12_court_25 : decode cX12_court 25 = .ok (.iinc 1 1, 3) := by decide +kernel
theorem dX12_court_28 : decode cX12_court 28 = .ok (.goto (-17), 3) := by decide +kernel
theorem dX12_court_31 : decode cX12_court 31 = .ok (.aload_n 0, 1) := by decide +kernel
theorem dX12_court_32 : decode cX12_court 32 = .ok (.invokevirtual 170, 3) := by decide +kernel
theorem dX12_court_35 : decode cX12_court 35 = .ok (.aload_n 0, 1) := by decide +kernel
theorem dX12_court_36 : decode cX12_court 36 = .ok (.invokevirtual 142, 3) := by decide +kernel
theorem dX12_court_39 : decode cX12_court 39 = .ok (.ldc2_w 173, 3) := by decide +kernel
theorem dX12_court_42 : decode cX12_court 42 = .ok (.lcmp, 1) := by decide +kernel
theorem dX12_court_43 : decode cX12_court 43 = .ok (.ifCond .eq 8, 3) := by decide +kernel
theorem dX12_court_46 : decode cX12_court 46 = .ok (.aload_n 0, 1) := by decide +kernel
theorem dX12_court_47 : decode cX12_court 47 = .ok (.iconst 1, 1) := by decide +kernel
theorem dX12_court_48 : decode cX12_court 48 = .ok (.invokevirtual 120, 3) := by decide +kernel
theorem dX12_court_51 : decode cX12_court 51 = .ok (.aload_n 0, 1) := by decide +kernel
theorem dX12_court_52 : decode cX12_court 52 = .ok (.invokevirtual 142, 3) := by decide +kernel
theorem dX12_court_55 : decode cX12_court 55 = .ok (.ldc2_w 173, 3) := by decide +kernel
theorem dX12_court_58 : decode cX12_court 58 = .ok (.lcmp, 1) := by decide +kernel
theorem dX12_court_59 : decode cX12_court 59 = .ok (.ifCond .ne 10, 3) := by decide +kernel
theorem dX12_court_62 : decode cX12_court 62 = .ok (.aload_n 0, 1) := by decide +kernel
theorem dX12_court_63 : decode cX12_court 63 = .ok (.invokevirtual 175, 3) := by decide +kernel
theorem dX12_court_66 : decode cX12_court 66 = .ok (.goto (-15), 3) := by decide +kernel
theorem dX12_court_69 : decode cX12_court 69 = .ok (.aload_n 0, 1) := by decide +kernel
theorem dX12_court_70 : decode cX12_court 70 = .ok (.invokevirtual 142, 3) := by decide +kernel
theorem dX12_court_73 : decode cX12_court 73 = .ok (.ldc2_w 178, 3) := by decide +kernel
theorem dX12_court_76 : decode cX12_court 76 = .ok (.lcmp, 1) := by decide +kernel
theorem dX12_court_77 : decode cX12_court 77 = .ok (.ifCond .ne 10, 3) := by decide +kernel
theorem dX12_court_80 : decode cX12_court 80 = .ok (.aload_n 0, 1) := by decide +kernel
theorem dX12_court_81 : decode cX12_court 81 = .ok (.invokevirtual 180, 3) := by decide +kernel
theorem dX12_court_84 : decode cX12_court 84 = .ok (.goto (-15), 3) := by decide +kernel
theorem dX12_court_87 : decode cX12_court 87 = .ok (.aload_n 0, 1) := by decide +kernel
theorem dX12_court_88 : decode cX12_court 88 = .ok (.invokevirtual 142, 3) := by decide +kernel
theorem dX12_court_91 : decode cX12_court 91 = .ok (.ldc2_w 183, 3) := by decide +kernel
theorem dX12_court_94 : decode cX12_court 94 = .ok (.lcmp, 1) := by decide +kernel
theorem dX12_court_95 : decode cX12_court 95 = .ok (.ifCond .ne 10, 3) := by decide +kernel
theorem dX12_court_98 : decode cX12_court 98 = .ok (.aload_n 0, 1) := by decide +kernel
theorem dX12_court_99 : decode cX12_court 99 = .ok (.invokevirtual 185, 3) := by decide +kernel
theorem dX12_court_102 : decode cX12_court 102 = .ok (.goto (-15), 3) := by decide +kernel
theorem dX12_court_105 : decode cX12_court 105 = .ok (.aload_n 0, 1) := by decide +kernel
theorem dX12_court_106 : decode cX12_court 106 = .ok (.getfield 111, 3) := by decide +kernel
theorem dX12_court_109 : decode cX12_court 109 = .ok (.ifCond .ne 16, 3) := by decide +kernel
theorem dX12_court_112 : decode cX12_court 112 = .ok (.aload_n 0, 1) := by decide +kernel
theorem dX12_court_113 : decode cX12_court 113 = .ok (.getfield 99, 3) := by decide +kernel
theorem dX12_court_116 : decode cX12_court 116 = .ok (.iconst 1, 1) := by decide +kernel
theorem dX12_court_117 : decode cX12_court 117 = .ok (.if_icmp .eq 8, 3) := by decide +kernel
theorem dX12_court_120 : decode cX12_court 120 = .ok (.aload_n 0, 1) := by decide +kernel
theorem dX12_court_121 : decode cX12_court 121 = .ok (.iconst 1, 1) := by decide +kernel
theorem dX12_court_122 : decode cX12_court 122 = .ok (.invokevirtual 120, 3) := by decide +kernel
theorem dX12_court_125 : decode cX12_court 125 = .ok (.aload_n 0, 1) := by decide +kernel
theorem dX12_court_126 : decode cX12_court 126 = .ok (.getfield 111, 3) := by decide +kernel
theorem dX12_court_129 : decode cX12_court 129 = .ok (.ifCond .le 19, 3) := by decide +kernel
theorem dX12_court_132 : decode cX12_court 132 = .ok (.aload_n 0, 1) := by decide +kernel
theorem dX12_court_133 : decode cX12_court 133 = .ok (.aload_n 0, 1) := by decide +kernel
theorem dX12_court_134 : decode cX12_court 134 = .ok (.getfield 111, 3) := by decide +kernel
theorem dX12_court_137 : decode cX12_court 137 = .ok (.putfield 188, 3) := by decide +kernel
theorem dX12_court_140 : decode cX12_court 140 = .ok (.ldc 191, 2) := by decide +kernel
theorem dX12_court_142 : decode cX12_court 142 = .ok (.aload_n 0, 1) := by decide +kernel
theorem dX12_court_143 : decode cX12_court 143 = .ok (.getfield 117, 3) := by decide +kernel
theorem dX12_court_146 : decode cX12_court 146 = .ok (.isub, 1) := by decide +kernel
theorem dX12_court_147 : decode cX12_court 147 = .ok (.ireturn, 1) := by decide +kernel
theorem dX12_court_148 : decode cX12_court 148 = .ok (.aload_n 0, 1) := by decide +kernel
theorem dX12_court_149 : decode cX12_court 149 = .ok (.iconst 1, 1) := by decide +kernel
theorem dX12_court_150 : decode cX12_court 150 = .ok (.putfield 192, 3) := by decide +kernel
theorem dX12_court_153 : decode cX12_court 153 = .ok (.iconst 0, 1) := by decide +kernel
theorem dX12_court_154 : decode cX12_court 154 = .ok (.istore_n 1, 1) := by decide +kernel
theorem dX12_court_155 : decode cX12_court 155 = .ok (.iload_n 1, 1) := by decide +kernel
theorem dX12_court_156 : decode cX12_court 156 = .ok (.sipush 144, 3) := by decide +kernel
theorem dX12_court_159 : decode cX12_court 159 = .ok (.if_icmp .ge 21, 3) := by decide +kernel
theorem dX12_court_162 : decode cX12_court 162 = .ok (.aload_n 0, 1) := by decide +kernel
theorem dX12_court_163 : decode cX12_court 163 = .ok (.getfield 19, 3) := by decide +kernel
theorem dX12_court_166 : decode cX12_court 166 = .ok (.iload_n 1, 1) := by decide +kernel
theorem dX12_court_167 : decode cX12_court 167 = .ok (.aload_n 0, 1) := by decide +kernel
theorem dX12_court_168 : decode cX12_court 168 = .ok (.getfield 22, 3) := by decide +kernel
theorem dX12_court_171 : decode cX12_court 171 = .ok (.iload_n 1, 1) := by decide +kernel
theorem dX12_court_172 : decode cX12_court 172 = .ok (.iaload, 1) := by decide +kernel
theorem dX12_court_173 : decode cX12_court 173 = .ok (.iastore, 1) := by decide +kernel
theorem dX12_court_174 : decode cX12_court 174 = .ok (.iinc 1 1, 3) := by decide +kernel
theorem dX12_court_177 : decode cX12_court 177 = .ok (.goto (-22), 3) := by decide +kernel
theorem dX12_court_180 : decode cX12_court 180 = .ok (.aload_n 0, 1) := by decide +kernel
theorem dX12_court_181 : decode cX12_court 181 = .ok (.getfield 19, 3) := by decide +kernel
theorem dX12_court_184 : decode cX12_court 184 = .ok (.iconst 0, 1) := by decide +kernel
theorem dX12_court_185 : decode cX12_court 185 = .ok (.iaload, 1) := by decide +kernel
theorem dX12_court_186 : decode cX12_court 186 = .ok (.ireturn, 1) := by decide +kernel
theorem dX12_fault_0 : decode cX12_fault 0 = .ok (.aload_n 0, 1) := by decide +kernel
theorem dX12_fault_1 : decode cX12_fault 1 = .ok (.iconst 0, 1) := by decide +kernel
theorem dX12_fault_2 : decode cX12_fault 2 = .ok (.putfield 53, 3) := by decide +kernel
theorem dX12_fault_5 : decode cX12_fault 5 = .ok (.aload_n 0, 1) := by decide +kernel
theorem dX12_fault_6 : decode cX12_fault 6 = .ok (.getfield 188, 3) := by decide +kernel
theorem dX12_fault_9 : decode cX12_fault 9 = .ok (.ireturn, 1) := by decide +kernel
theorem dX12_isLine_0 : decode cX12_isLine 0 = .ok (.iload_n 1, 1) := by decide +kernel
theorem dX12_isLine_1 : decode cX12_isLine 1 = .ok (.i2l, 1) := by decide +kernel
theorem dX12_isLine_2 : decode cX12_isLine 2 = .ok (.lconst 0, 1) := by decide +kernel
theorem dX12_isLine_3 : decode cX12_isLine 3 = .ok (.aload_n 0, 1) := by decide +kernel
theorem dX12_isLine_4 : decode cX12_isLine 4 = .ok (.getfield 19, 3) := by decide +kernel
theorem dX12_isLine_7 : decode cX12_isLine 7 = .ok (.iconst 0, 1) := by decide +kernel
theorem dX12_isLine_8 : decode cX12_isLine 8 = .ok (.iaload, 1) := by decide +kernel
theorem dX12_isLine_9 : decode cX12_isLine 9 = .ok (.iconst 1, 1) := by decide +kernel
theorem dX12_isLine_10 : decode cX12_isLine 10 = .ok (.isub, 1) := by decide +kernel
theorem dX12_isLine_11 : decode cX12_isLine 11 = .ok (.i2l, 1) := by decide +kernel
theorem dX12_isLine_12 : decode cX12_isLine 12 = .ok (.invokestatic 63, 3) := by decide +kernel
theorem dX12_isLine_15 : decode cX12_isLine 15 = .ok (.ireturn, 1) := by decide +kernel
theorem dX12_isPiece_0 : decode cX12_isPiece 0 = .ok (.iload_n 1, 1) := by decide +kernel
theorem dX12_isPiece_1 : decode cX12_isPiece 1 = .ok (.i2l, 1) := by decide +kernel
theorem dX12_isPiece_2 : decode cX12_isPiece 2 = .ok (.lconst 0, 1) := by decide +kernel
theorem dX12_isPiece_3 : decode cX12_isPiece 3 = .ok (.aload_n 0, 1) := by decide +kernel
theorem dX12_isPiece_4 : decode cX12_isPiece 4 = .ok (.getfield 19, 3) := by decide +kernel
theorem dX12_isPiece_7 : decode cX12_isPiece 7 = .ok (.iconst 2, 1) := by decide +kernel
theorem dX12_isPiece_8 : decode cX12_isPiece 8 = .ok (.iaload, 1) := by decide +kernel
theorem dX12_isPiece_9 : decode cX12_isPiece 9 = .ok (.iconst 1, 1) := by decide +kernel
theorem dX12_isPiece_10 : decode cX12_isPiece 10 = .ok (.isub, 1) := by decide +kernel
theorem dX12_isPiece_11 : decode cX12_isPiece 11 = .ok (.i2l, 1) := by decide +kernel
theorem dX12_isPiece_12 : decode cX12_isPiece 12 = .ok (.invokestatic 63, 3) := by decide +kernel
theorem dX12_isPiece_15 : decode cX12_isPiece 15 = .ok (.ireturn, 1) := by decide +kernel
theorem dX12_of_0 : decode cX12_of 0 = .ok (.aload_n 0, 1) := by decide +kernel
theorem dX12_of_1 : decode cX12_of 1 = .ok (.getfield 19, 3) := by decide +kernel
theorem dX12_of_4 : decode cX12_of 4 = .ok (.bipush 84, 2) := by decide +kernel
theorem dX12_of_6 : decode cX12_of 6 = .ok (.bipush 6, 2) := by decide +kernel
theorem dX12_of_8 : decode cX12_of 8 = .ok (.iload_n 1, 1) := by decide +kernel
theorem dX12_of_9 : decode cX12_of 9 = .ok (.imul, 1) := by decide +kernel
theorem dX12_of_10 : decode cX12_of 10 = .ok (.iadd, 1) := by decide +kernel
theorem dX12_of_11 : decode cX12_of 11 = .ok (.iload_n 2, 1) := by decide +kernel
theorem dX12_of_12 : decode cX12_of 12 = .ok (.iadd, 1) := by decide +kernel
theorem dX12_of_13 : decode cX12_of 13 = .ok (.iaload, 1) := by decide +kernel
theorem dX12_of_14 : decode cX12_of 14 = .ok (.ireturn, 1) := by decide +kernel
theorem dX12_floor_0 : decode cX12_floor 0 = .ok (.aload_n 0, 1) := by decide +kernel
theorem dX12_floor_1 : decode cX12_floor 1 = .ok (.getfield 19, 3) := by decide +kernel
theorem dX12_floor_4 : decode cX12_floor 4 = .ok (.bipush 28, 2) := by decide +kernel
theorem dX12_floor_6 : decode cX12_floor 6 = .ok (.iconst 3, 1) := by decide +kernel
theorem dX12_floor_7 : decode cX12_floor 7 = .ok (.iload_n 1, 1) := by decide +kernel
theorem dX12_floor_8 : decode cX12_floor 8 = .ok (.imul, 1) := by decide +kernel
theorem dX12_floor_9 : decode cX12_floor 9 = .ok (.iadd, 1) := by decide +kernel
theorem dX12_floor_10 : decode cX12_floor 10 = .ok (.iaload, 1) := by decide +kernel
theorem dX12_floor_11 : decode cX12_floor 11 = .ok (.ireturn, 1) := by decide +kernel
theorem dX12_below_0 : decode cX12_below 0 = .ok (.ldc 89, 2) := by decide +kernel
theorem dX12_below_2 : decode cX12_below 2 = .ok (.istore_n 2, 1) := by decide +kernel
theorem dX12_below_3 : decode cX12_below 3 = .ok (.iconst 0, 1) := by decide +kernel
theorem dX12_below_4 : decode cX12_below 4 = .ok (.istore_n 3, 1) := by decide +kernel
theorem dX12_below_5 : decode cX12_below 5 = .ok (.iload_n 3, 1) := by decide +kernel
theorem dX12_below_6 : decode cX12_below 6 = .ok (.aload_n 0, 1) := by decide +kernel
theorem dX12_below_7 : decode cX12_below 7 = .ok (.getfield 19, 3) := by decide +kernel
theorem dX12_below_10 : decode cX12_below 10 = .ok (.iconst 0, 1) := by decide +kernel
theorem dX12_below_11 : decode cX12_below 11 = .ok (.iaload, 1) := by decide +kernel
theorem dX12_below_12 : decode cX12_below 12 = .ok (.if_icmp .ge 88, 3) := by decide +kernel
theorem dX12_below_15 : decode cX12_below 15 = .ok (.aload_n 0, 1) := by decide +kernel
theorem dX12_below_16 : decode cX12_below 16 = .ok (.getfield 19, 3) := by decide +kernel
theorem dX12_below_19 : decode cX12_below 19 = .ok (.bipush 28, 2) := by decide +kernel
theorem dX12_below_21 : decode cX12_below 21 = .ok (.iconst 3, 1) := by decide +kernel
theorem dX12_below_22 : decode cX12_below 22 = .ok (.iload_n 3, 1) := by decide +kernel
theorem dX12_below_23 : decode cX12_below 23 = .ok (.imul, 1) := by decide +kernel
theorem dX12_below_24 : decode cX12_below 24 = .ok (.iadd, 1) := by decide +kernel
theorem dX12_below_25 : decode cX12_below 25 = .ok (.iconst 1, 1) := by decide +kernel
theorem dX12_below_26 : decode cX12_below 26 = .ok (.iadd, 1) := by decide +kernel
theorem dX12_below_27 : decode cX12_below 27 = .ok (.iaload, 1) := by decide +kernel
theorem dX12_below_28 : decode cX12_below 28 = .ok (.aload_n 0, 1) := by decide +kernel
theorem dX12_below_29 : decode cX12_below 29 = .ok (.getfield 19, 3) := by decide +kernel
theorem dX12_below_32 : decode cX12_below 32 = .ok (.bipush 28, 2) := by decide +kernel
theorem dX12_below_34 : decode cX12_below 34 = .ok (.iconst 3, 1) := by decide +kernel
theorem dX12_below_35 : decode cX12_below 35 = .ok (.iload_n 1, 1) := by decide +kernel
theorem dX12_below_36 : decode cX12_below 36 = .ok (.imul, 1) := by decide +kernel
theorem dX12_below_37 : decode cX12_below 37 = .ok (.iadd, 1) := by decide +kernel
theorem dX12_below_38 : decode cX12_below 38 = .ok (.iconst 1, 1) := by decide +kernel
theorem dX12_below_39 : decode cX12_below 39 = .ok (.iadd, 1) := by decide +kernel
theorem dX12_below_40 : decode cX12_below 40 = .ok (.iaload, 1) := by decide +kernel
theorem dX12_below_41 : decode cX12_below 41 = .ok (.if_icmp .ne 20, 3) := by decide +kernel
theorem dX12_below_44 : decode cX12_below 44 = .ok (.aload_n 0, 1) := by decide +kernel
theorem dX12_below_45 : decode cX12_below 45 = .ok (.iload_n 3, 1) := by decide +kernel
theorem dX12_below_46 : decode cX12_below 46 = .ok (.invokevirtual 196, 3) := by decide +kernel
theorem dX12_below_49 : decode cX12_below 49 = .ok (.aload_n 0, 1) := by decide +kernel
theorem dX12_below_50 : decode cX12_below 50 = .ok (.iload_n 1, 1) := by decide +kernel
theorem dX12_below_51 : decode cX12_below 51 = .ok (.invokevirtual 196, 3) := by decide +kernel
theorem dX12_below_54 : decode cX12_below 54 = .ok (.if_icmp .ge 7, 3) := by decide +kernel
theorem dX12_below_57 : decode cX12_below 57 = .ok (.iconst 1, 1) := by decide +kernel
theorem dX12_below_58 : decode cX12_below 58 = .ok (.goto 4, 3) := by decide +kernel
theorem dX12_below_61 : decode cX12_below 61 = .ok (.iconst 0, 1) := by decide +kernel
theorem dX12_below_62 : decode cX12_below 62 = .ok (.istore 4, 2) := by decide +kernel
theorem dX12_below_64 : decode cX12_below 64 = .ok (.iload 4, 2) := by decide +kernel
theorem dX12_below_66 : decode cX12_below 66 = .ok (.ifCond .eq 26, 3) := by decide +kernel
theorem dX12_below_69 : decode cX12_below 69 = .ok (.iload_n 2, 1) := by decide +kernel
theorem dX12_below_70 : decode cX12_below 70 = .ok (.ldc 89, 2) := by decide +kernel
theorem dX12_below_72 : decode cX12_below 72 = .ok (.if_icmp .eq 16, 3) := by decide +kernel
theorem dX12_below_75 : decode cX12_below 75 = .ok (.aload_n 0, 1) := by decide +kernel
theorem dX12_below_76 : decode cX12_below 76 = .ok (.iload_n 3, 1) := by decide +kernel
theorem dX12_below_77 : decode cX12_below 77 = .ok (.invokevirtual 196, 3) := by decide +kernel
theorem dX12_below_80 : decode cX12_below 80 = .ok (.aload_n 0, 1) := by decide +kernel
theorem dX12_below_81 : decode cX12_below 81 = .ok (.iload_n 2, 1) := by decide +kernel
theorem dX12_below_82 : decode cX12_below 82 = .ok (.invokevirtual 196, 3) := by decide +kernel
theorem dX12_below_85 : decode cX12_below 85 = .ok (.if_icmp .le 7, 3) := by decide +kernel
theorem dX12_below_88 : decode cX12_below 88 = .ok (.iload_n 3, 1) := by decide +kernel
theorem dX12_below_89 : decode cX12_below 89 = .ok (.goto 4, 3) := by decide +kernel
theorem dX12_below_92 : decode cX12_below 92 = .ok (.iload_n 2, 1) := by decide +kernel
theorem dX12_below_93 : decode cX12_below 93 = .ok (.istore_n 2, 1) := by decide +kernel
theorem dX12_below_94 : decode cX12_below 94 = .ok (.iinc 3 1, 3) := by decide +kernel
theorem dX12_below_97 : decode cX12_below 97 = .ok (.goto (-92), 3) := by decide +kernel
theorem dX12_below_100 : decode cX12_below 100 = .ok (.iload_n 2, 1) := by decide +kernel
theorem dX12_below_101 : decode cX12_below 101 = .ok (.ireturn, 1) := by decide +kernel
theorem dX12_rightsTo_0 : decode cX12_rightsTo 0 = .ok (.aload_n 0, 1) := by decide +kernel
theorem dX12_rightsTo_1 : decode cX12_rightsTo 1 = .ok (.getfield 19, 3) := by decide +kernel
theorem dX12_rightsTo_4 : decode cX12_rightsTo 4 = .ok (.iconst 3, 1) := by decide +kernel
theorem dX12_rightsTo_5 : decode cX12_rightsTo 5 = .ok (.iaload, 1) := by decide +kernel
theorem dX12_rightsTo_6 : decode cX12_rightsTo 6 = .ok (.bipush 24, 2) := by decide +kernel
theorem dX12_rightsTo_8 : decode cX12_rightsTo 8 = .ok (.irem, 1) := by decide +kernel
theorem dX12_rightsTo_9 : decode cX12_rightsTo 9 = .ok (.istore_n 2, 1) := by decide +kernel
theorem dX12_rightsTo_10 : decode cX12_rightsTo 10 = .ok (.iconst 0, 1) := by decide +kernel
theorem dX12_rightsTo_11 : decode cX12_rightsTo 11 = .ok (.istore_n 3, 1) := by decide +kernel
theorem dX12_rightsTo_12 : decode cX12_rightsTo 12 = .ok (.iconst 0, 1) := by decide +kernel
theorem dX12_rightsTo_13 : decode cX12_rightsTo 13 = .ok (.istore 4, 2) := by decide +kernel
theorem dX12_rightsTo_15 : decode cX12_rightsTo 15 = .ok (.iload 4, 2) := by decide +kernel
theorem dX12_rightsTo_17 : decode cX12_rightsTo 17 = .ok (.aload_n 0, 1) := by decide +kernel
theorem dX12_rightsTo_18 : decode cX12_rightsTo 18 = .ok (.getfield 19, 3) := by decide +kernel
theorem dX12_rightsTo_21 : decode cX12_rightsTo 21 = .ok (.iconst 1, 1) := by decide +kernel
theorem dX12_rightsTo_22 : decode cX12_rightsTo 22 = .ok (.iaload, 1) := by decide +kernel
theorem dX12_rightsTo_23 : decode cX12_rightsTo 23 = .ok (.if_icmp .ge 75, 3) := by decide +kernel
theorem dX12_rightsTo_26 : decode cX12_rightsTo 26 = .ok (.bipush 52, 2) := by decide +kernel
theorem dX12_rightsTo_28 : decode cX12_rightsTo 28 = .ok (.iconst 4, 1) := by decide +kernel
theorem dX12_rightsTo_29 : decode cX12_rightsTo 29 = .ok (.iload 4, 2) := by decide +kernel
theorem dX12_rightsTo_31 : decode cX12_rightsTo 31 = .ok (.imul, 1) := by decide +kernel
theorem dX12_rightsTo_32 : decode cX12_rightsTo 32 = .ok (.iadd, 1) := by decide +kernel
theorem dX12_rightsTo_33 : decode cX12_rightsTo 33 = .ok (.istore 5, 2) := by decide +kernel
theorem dX12_rightsTo_35 : decode cX12_rightsTo 35 = .ok (.iload_n 3, 1) := by decide +kernel
theorem dX12_rightsTo_36 : decode cX12_rightsTo 36 = .ok (.aload_n 0, 1) := by decide +kernel
theorem dX12_rightsTo_37 : decode cX12_rightsTo 37 = .ok (.getfield 19, 3) := by decide +kernel
theorem dX12_rightsTo_40 : decode cX12_rightsTo 40 = .ok (.iload 5, 2) := by decide +kernel
theorem dX12_rightsTo_42 : decode cX12_rightsTo 42 = .ok (.iaload, 1) := by decide +kernel
theorem dX12_rightsTo_43 : decode cX12_rightsTo 43 = .ok (.iload_n 1, 1) := by decide +kernel
theorem dX12_rightsTo_44 : decode cX12_rightsTo 44 = .ok (.if_icmp .ne 45, 3) := by decide +kernel
theorem dX12_rightsTo_47 : decode cX12_rightsTo 47 = .ok (.iload_n 2, 1) := by decide +kernel
theorem dX12_rightsTo_48 : decode cX12_rightsTo 48 = .ok (.i2l, 1) := by decide +kernel
theorem dX12_rightsTo_49 : decode cX12_rightsTo 49 = .ok (.aload_n 0, 1) := by decide +kernel
theorem dX12_rightsTo_50 : decode cX12_rightsTo 50 = .ok (.getfield 19, 3) := by decide +kernel
theorem dX12_rightsTo_53 : decode cX12_rightsTo 53 = .ok (.iload 5, 2) := by decide +kernel
theorem dX12_rightsTo_55 : decode cX12_rightsTo 55 = .ok (.iconst 1, 1) := by decide +kernel
theorem dX12_rightsTo_56 : decode cX12_rightsTo 56 = .ok (.iadd, 1) := by decide +kernel
theorem dX12_rightsTo_57 : decode cX12_rightsTo 57 = .ok (.iaload, 1) := by decide +kernel
theorem dX12_rightsTo_58 : decode cX12_rightsTo 58 = .ok (.i2l, 1) := by decide +kernel
theorem dX12_rightsTo_59 : decode cX12_rightsTo 59 = .ok (.aload_n 0, 1) := by decide +kernel
theorem dX12_rightsTo_60 : decode cX12_rightsTo 60 = .ok (.getfield 19, 3) := by decide +kernel
theorem dX12_rightsTo_63 : decode cX12_rightsTo 63 = .ok (.iload 5, 2) := by decide +kernel
theorem dX12_rightsTo_65 : decode cX12_rightsTo 65 = .ok (.iconst 2, 1) := by decide +kernel
theorem dX12_rightsTo_66 : decode cX12_rightsTo 66 = .ok (.iadd, 1) := by decide +kernel
theorem dX12_rightsTo_67 : decode cX12_rightsTo 67 = .ok (.iaload, 1) := by decide +kernel
theorem dX12_rightsTo_68 : decode cX12_rightsTo 68 = .ok (.i2l, 1) := by decide +kernel
theorem dX12_rightsTo_69 : decode cX12_rightsTo 69 = .ok (.invokestatic 63, 3) := by decide +kernel
theorem dX12_rightsTo_72 : decode cX12_rightsTo 72 = .ok (.ifCond .eq 17, 3) := by decide +kernel
theorem dX12_rightsTo_75 : decode cX12_rightsTo 75 = .ok (.iconst 1, 1) := by decide +kernel
theorem dX12_rightsTo_76 : decode cX12_rightsTo 76 = .ok (.aload_n 0, 1) := by decide +kernel
theorem dX12_rightsTo_77 : decode cX12_rightsTo 77 = .ok (.getfield 19, 3) := by decide +kernel
theorem dX12_rightsTo_80 : decode cX12_rightsTo 80 = .ok (.iload 5, 2) := by decide +kernel
theorem dX12_rightsTo_82 : decode cX12_rightsTo 82 = .ok (.iconst 3, 1) := by decide +kernel
theorem dX12_rightsTo_83 : decode cX12_rightsTo 83 = .ok (.iadd, 1) := by decide +kernel
theorem dX12_rightsTo_84 : decode cX12_rightsTo 84 = .ok (.iaload, 1) := by decide +kernel
theorem dX12_rightsTo_85 : decode cX12_rightsTo 85 = .ok (.ishl, 1) := by decide +kernel
theorem dX12_rightsTo_86 : decode cX12_rightsTo 86 = .ok (.goto 4, 3) := by decide +kernel
theorem dX12_rightsTo_89 : decode cX12_rightsTo 89 = .ok (.iconst 0, 1) := by decide +kernel
theorem dX12_rightsTo_90 : decode cX12_rightsTo 90 = .ok (.ior, 1) := by decide +kernel
theorem dX12_rightsTo_91 : decode cX12_rightsTo 91 = .ok (.istore_n 3, 1) := by decide +kernel
theorem dX12_rightsTo_92 : decode cX12_rightsTo 92 = .ok (.iinc 4 1, 3) := by decide +kernel
theorem dX12_rightsTo_95 : decode cX12_rightsTo 95 = .ok (.goto (-80), 3) := by decide +kernel
theorem dX12_rightsTo_98 : decode cX12_rightsTo 98 = .ok (.iload_n 3, 1) := by decide +kernel
theorem dX12_rightsTo_99 : decode cX12_rightsTo 99 = .ok (.ireturn, 1) := by decide +kernel
theorem dX12_layNow_0 : decode cX12_layNow 0 = .ok (.aload_n 0, 1) := by decide +kernel
theorem dX12_layNow_1 : decode cX12_layNow 1 = .ok (.iconst 0, 1) := by decide +kernel
theorem dX12_layNow_2 : decode cX12_layNow 2 = .ok (.putfield 199, 3) := by decide +kernel
theorem dX12_layNow_5 : decode cX12_layNow 5 = .ok (.iconst 0, 1) := by decide +kernel
theorem dX12_layNow_6 : decode cX12_layNow 6 = .ok (.istore_n 1, 1) := by decide +kernel
theorem dX12_layNow_7 : decode cX12_layNow 7 = .ok (.iload_n 1, 1) := by decide +kernel
theorem dX12_layNow_8 : decode cX12_layNow 8 = .ok (.aload_n 0, 1) := by decide +kernel
theorem dX12_layNow_9 : decode cX12_layNow 9 = .ok (.getfield 19, 3) := by decide +kernel
theorem dX12_layNow_12 : decode cX12_layNow 12 = .ok (.iconst 2, 1) := by decide +kernel
theorem dX12_layNow_13 : decode cX12_layNow 13 = .ok (.iaload, 1) := by decide +kernel
theorem dX12_layNow_14 : decode cX12_layNow 14 = .ok (.if_icmp .ge 50, 3) := by decide +kernel
theorem dX12_layNow_17 : decode cX12_layNow 17 = .ok (.aload_n 0, 1) := by decide +kernel
theorem dX12_layNow_18 : decode cX12_layNow 18 = .ok (.getfield 28, 3) := by decide +kernel
theorem dX12_layNow_21 : decode cX12_layNow 21 = .ok (.iload_n 1, 1) := by decide +kernel
theorem dX12_layNow_22 : decode cX12_layNow 22 = .ok (.aload_n 0, 1) := by decide +kernel
theorem dX12_layNow_23 : decode cX12_layNow 23 = .ok (.iload_n 1, 1) := by decide +kernel
theorem dX12_layNow_24 : decode cX12_layNow 24 = .ok (.iconst 4, 1) := by decide +kernel
theorem dX12_layNow_25 : decode cX12_layNow 25 = .ok (.invokevirtual 202, 3) := by decide +kernel
theorem dX12_layNow_28 : decode cX12_layNow 28 = .ok (.iastore, 1) := by decide +kernel
theorem dX12_layNow_29 : decode cX12_layNow 29 = .ok (.aload_n 0, 1) := by decide +kernel
theorem dX12_layNow_30 : decode cX12_layNow 30 = .ok (.getfield 31, 3) := by decide +kernel
theorem dX12_layNow_33 : decode cX12_layNow 33 = .ok (.iload_n 1, 1) := by decide +kernel
theorem dX12_layNow_34 : decode cX12_layNow 34 = .ok (.aload_n 0, 1) := by decide +kernel
theorem dX12_layNow_35 : decode cX12_layNow 35 = .ok (.iload_n 1, 1) := by decide +kernel
theorem dX12_layNow_36 : decode cX12_layNow 36 = .ok (.iconst 2, 1) := by decide +kernel
theorem dX12_layNow_37 : decode cX12_layNow 37 = .ok (.invokevirtual 202, 3) := by decide +kernel
theorem dX12_layNow_40 : decode cX12_layNow 40 = .ok (.iastore, 1) := by decide +kernel
theorem dX12_layNow_41 : decode cX12_layNow 41 = .ok (.aload_n 0, 1) := by decide +kernel
theorem dX12_layNow_42 : decode cX12_layNow 42 = .ok (.dup, 1) := by decide +kernel
theorem dX12_layNow_43 : decode cX12_layNow 43 = .ok (.getfield 199, 3) := by decide +kernel
theorem dX12_layNow_46 : decode cX12_layNow 46 = .ok (.aload_n 0, 1) := by decide +kernel
theorem dX12_layNow_47 : decode cX12_layNow 47 = .ok (.iload_n 1, 1) := by decide +kernel
theorem dX12_layNow_48 : decode cX12_layNow 48 = .ok (.iconst 5, 1) := by decide +kernel
theorem dX12_layNow_49 : decode cX12_layNow 49 = .ok (.invokevirtual 202, 3) := by decide +kernel
theorem dX12_layNow_52 : decode cX12_layNow 52 = .ok (.iload_n 1, 1) := by decide +kernel
theorem dX12_layNow_53 : decode cX12_layNow 53 = .ok (.ishl, 1) := by decide +kernel
theorem dX12_layNow_54 : decode cX12_layNow 54 = .ok (.ior, 1) := by decide +kernel
theorem dX12_layNow_55 : decode cX12_layNow 55 = .ok (.putfield 199, 3) := by decide +kernel
theorem dX12_layNow_58 : decode cX12_layNow 58 = .ok (.iinc 1 1, 3) := by decide +kernel
theorem dX12_layNow_61 : decode cX12_layNow 61 = .ok (.goto (-54), 3) := by decide +kernel
theorem dX12_layNow_64 : decode cX12_layNow 64 = .ok (.return_, 1) := by decide +kernel
theorem dX12_keepNow_0 : decode cX12_keepNow 0 = .ok (.iconst 0, 1) := by decide +kernel
theorem dX12_keepNow_1 : decode cX12_keepNow 1 = .ok (.istore_n 1, 1) := by decide +kernel
theorem dX12_keepNow_2 : decode cX12_keepNow 2 = .ok (.iload_n 1, 1) := by decide +kernel
theorem dX12_keepNow_3 : decode cX12_keepNow 3 = .ok (.aload_n 0, 1) := by decide +kernel
theorem dX12_keepNow_4 : decode cX12_keepNow 4 = .ok (.getfield 19, 3) := by decide +kernel
theorem dX12_keepNow_7 : decode cX12_keepNow 7 = .ok (.iconst 2, 1) := by decide +kernel
theorem dX12_keepNow_8 : decode cX12_keepNow 8 = .ok (.iaload, 1) := by decide +kernel
theorem dX12_keepNow_9 : decode cX12_keepNow 9 = .ok (.if_icmp .ge 71, 3) := by decide +kernel
theorem dX12_keepNow_12 : decode cX12_keepNow 12 = .ok (.aload_n 0, 1) := by decide +kernel
theorem dX12_keepNow_13 : decode cX12_keepNow 13 = .ok (.getfield 19, 3) := by decide +kernel
theorem dX12_keepNow_16 : decode cX12_keepNow 16 = .ok (.bipush 84, 2) := by decide +kernel
theorem dX12_keepNow_18 : decode cX12_keepNow 18 = .ok (.bipush 6, 2) := by decide +kernel
theorem dX12_keepNow_20 : decode cX12_keepNow 20 = .ok (.iload_n 1, 1) := by decide +kernel
theorem dX12_keepNow_21 : decode cX12_keepNow 21 = .ok (.imul, 1) := by decide +kernel
theorem dX12_keepNow_22 : decode cX12_keepNow 22 = .ok (.iadd, 1) := by decide +kernel
theorem dX12_keepNow_23 : decode cX12_keepNow 23 = .ok (.iconst 4, 1) := by decide +kernel
theorem dX12_keepNow_24 : decode cX12_keepNow 24 = .ok (.iadd, 1) := by decide +kernel
theorem dX12_keepNow_25 : decode cX12_keepNow 25 = .ok (.aload_n 0, 1) := by decide +kernel
theorem dX12_keepNow_26 : decode cX12_keepNow 26 = .ok (.getfield 28, 3) := by decide +kernel
theorem dX12_keepNow_29 : decode cX12_keepNow 29 = .ok (.iload_n 1, 1) := by decide +kernel
theorem dX12_keepNow_30 : decode cX12_keepNow 30 = .ok (.iaload, 1) := by decide +kernel
theorem dX12_keepNow_31 : decode cX12_keepNow 31 = .ok (.iastore, 1) := by decide +kernel
theorem dX12_keepNow_32 : decode cX12_keepNow 32 = .ok (.aload_n 0, 1) := by decide +kernel
theorem dX12_keepNow_33 : decode cX12_keepNow 33 = .ok (.getfield 19, 3) := by decide +kernel
theorem dX12_keepNow_36 : decode cX12_keepNow 36 = .ok (.bipush 84, 2) := by decide +kernel
theorem dX12_keepNow_38 : decode cX12_keepNow 38 = .ok (.bipush 6, 2) := by decide +kernel
theorem dX12_keepNow_40 : decode cX12_keepNow 40 = .ok (.iload_n 1, 1) := by decide +kernel
theorem dX12_keepNow_41 : decode cX12_keepNow 41 = .ok (.imul, 1) := by decide +kernel
theorem dX12_keepNow_42 : decode cX12_keepNow 42 = .ok (.iadd, 1) := by decide +kernel
theorem dX12_keepNow_43 : decode cX12_keepNow 43 = .ok (.iconst 2, 1) := by decide +kernel
theorem dX12_keepNow_44 : decode cX12_keepNow 44 = .ok (.iadd, 1) := by decide +kernel
theorem dX12_keepNow_45 : decode cX12_keepNow 45 = .ok (.aload_n 0, 1) := by decide +kernel
theorem dX12_keepNow_46 : decode cX12_keepNow 46 = .ok (.getfield 31, 3) := by decide +kernel
theorem dX12_keepNow_49 : decode cX12_keepNow 49 = .ok (.iload_n 1, 1) := by decide +kernel
theorem dX12_keepNow_50 : decode cX12_keepNow 50 = .ok (.iaload, 1) := by decide +kernel
theorem dX12_keepNow_51 : decode cX12_keepNow 51 = .ok (.iastore, 1) := by decide +kernel
theorem dX12_keepNow_52 : decode cX12_keepNow 52 = .ok (.aload_n 0, 1) := by decide +kernel
theorem dX12_keepNow_53 : decode cX12_keepNow 53 = .ok (.getfield 19, 3) := by decide +kernel
theorem dX12_keepNow_56 : decode cX12_keepNow 56 = .ok (.bipush 84, 2) := by decide +kernel
theorem dX12_keepNow_58 : decode cX12_keepNow 58 = .ok (.bipush 6, 2) := by decide +kernel
theorem dX12_keepNow_60 : decode cX12_keepNow 60 = .ok (.iload_n 1, 1) := by decide +kernel
theorem dX12_keepNow_61 : decode cX12_keepNow 61 = .ok (.imul, 1) := by decide +kernel
theorem dX12_keepNow_62 : decode cX12_keepNow 62 = .ok (.iadd, 1) := by decide +kernel
theorem dX12_keepNow_63 : decode cX12_keepNow 63 = .ok (.iconst 5, 1) := by decide +kernel
theorem dX12_keepNow_64 : decode cX12_keepNow 64 = .ok (.iadd, 1) := by decide +kernel
theorem dX12_keepNow_65 : decode cX12_keepNow 65 = .ok (.aload_n 0, 1) := by decide +kernel
theorem dX12_keepNow_66 : decode cX12_keepNow 66 = .ok (.getfield 199, 3) := by decide +kernel
theorem dX12_keepNow_69 : decode cX12_keepNow 69 = .ok (.iload_n 1, 1) := by decide +kernel
theorem dX12_keepNow_70 : decode cX12_keepNow 70 = .ok (.ishr, 1) := by decide +kernel
theorem dX12_keepNow_71 : decode cX12_keepNow 71 = .ok (.iconst 1, 1) := by decide +kernel
theorem dX12_keepNow_72 : decode cX12_keepNow 72 = .ok (.iand, 1) := by decide +kernel
theorem dX12_keepNow_73 : decode cX12_keepNow 73 = .ok (.iastore, 1) := by decide +kernel
theorem dX12_keepNow_74 : decode cX12_keepNow 74 = .ok (.iinc 1 1, 3) := by decide +kernel
theorem dX12_keepNow_77 : decode cX12_keepNow 77 = .ok (.goto (-75), 3) := by decide +kernel
theorem dX12_keepNow_80 : decode cX12_keepNow 80 = .ok (.return_, 1) := by decide +kernel
theorem dX12_yardsOn_0 : decode cX12_yardsOn 0 = .ok (.iconst 0, 1) := by decide +kernel
theorem dX12_yardsOn_1 : decode cX12_yardsOn 1 = .ok (.istore_n 2, 1) := by decide +kernel
theorem dX12_yardsOn_2 : decode cX12_yardsOn 2 = .ok (.iconst 0, 1) := by decide +kernel
theorem dX12_yardsOn_3 : decode cX12_yardsOn 3 = .ok (.istore_n 3, 1) := by decide +kernel
theorem dX12_yardsOn_4 : decode cX12_yardsOn 4 = .ok (.iload_n 3, 1) := by decide +kernel
theorem dX12_yardsOn_5 : decode cX12_yardsOn 5 = .ok (.aload_n 0, 1) := by decide +kernel
theorem dX12_yardsOn_6 : decode cX12_yardsOn 6 = .ok (.getfield 19, 3) := by decide +kernel
theorem dX12_yardsOn_9 : decode cX12_yardsOn 9 = .ok (.iconst 2, 1) := by decide +kernel
theorem dX12_yardsOn_10 : decode cX12_yardsOn 10 = .ok (.iaload, 1) := by decide +kernel
theorem dX12_yardsOn_11 : decode cX12_yardsOn 11 = .ok (.if_icmp .ge 32, 3) := by decide +kernel
theorem dX12_yardsOn_14 : decode cX12_yardsOn 14 = .ok (.iload_n 2, 1) := by decide +kernel
theorem dX12_yardsOn_15 : decode cX12_yardsOn 15 = .ok (.aload_n 0, 1) := by decide +kernel
theorem dX12_yardsOn_16 : decode cX12_yardsOn 16 = .ok (.getfield 28, 3) := by decide +kernel
theorem dX12_yardsOn_19 : decode cX12_yardsOn 19 = .ok (.iload_n 3, 1) := by decide +kernel
theorem dX12_yardsOn_20 : decode cX12_yardsOn 20 = .ok (.iaload, 1) := by decide +kernel
theorem dX12_yardsOn_21 : decode cX12_yardsOn 21 = .ok (.iload_n 1, 1) := by decide +kernel
theorem dX12_yardsOn_22 : decode cX12_yardsOn 22 = .ok (.if_icmp .ne 12, 3) := by decide +kernel
theorem dX12_yardsOn_25 : decode cX12_yardsOn 25 = .ok (.aload_n 0, 1) := by decide +kernel
theorem dX12_yardsOn_26 : decode cX12_yardsOn 26 = .ok (.iload_n 3, 1) := by decide +kernel
theorem dX12_yardsOn_27 : decode cX12_yardsOn 27 = .ok (.iconst 3, 1) := by decide +kernel
theorem dX12_yardsOn_28 : decode cX12_yardsOn 28 = .ok (.invokevirtual 202, 3) := by decide +kernel
theorem dX12_yardsOn_31 : decode cX12_yardsOn 31 = .ok (.goto 4, 3) := by decide +kernel
theorem dX12_yardsOn_34 : decode cX12_yardsOn 34 = .ok (.iconst 0, 1) := by decide +kernel
theorem dX12_yardsOn_35 : decode cX12_yardsOn 35 = .ok (.iadd, 1) := by decide +kernel
theorem dX12_yardsOn_36 : decode cX12_yardsOn 36 = .ok (.istore_n 2, 1) := by decide +kernel
theorem dX12_yardsOn_37 : decode cX12_yardsOn 37 = .ok (.iinc 3 1, 3) := by decide +kernel
theorem dX12_yardsOn_40 : decode cX12_yardsOn 40 = .ok (.goto (-36), 3) := by decide +kernel
theorem dX12_yardsOn_43 : decode cX12_yardsOn 43 = .ok (.iload_n 2, 1) := by decide +kernel
theorem dX12_yardsOn_44 : decode cX12_yardsOn 44 = .ok (.ireturn, 1) := by decide +kernel
theorem dX12_hasSheet_0 : decode cX12_hasSheet 0 = .ok (.iconst 0, 1) := by decide +kernel
theorem dX12_hasSheet_1 : decode cX12_hasSheet 1 = .ok (.istore_n 2, 1) := by decide +kernel
theorem dX12_hasSheet_2 : decode cX12_hasSheet 2 = .ok (.iconst 0, 1) := by decide +kernel
theorem dX12_hasSheet_3 : decode cX12_hasSheet 3 = .ok (.istore_n 3, 1) := by decide +kernel
theorem dX12_hasSheet_4 : decode cX12_hasSheet 4 = .ok (.iload_n 3, 1) := by decide +kernel
theorem dX12_hasSheet_5 : decode cX12_hasSheet 5 = .ok (.aload_n 0, 1) := by decide +kernel
theorem dX12_hasSheet_6 : decode cX12_hasSheet 6 = .ok (.getfield 19, 3) := by decide +kernel
theorem dX12_hasSheet_9 : decode cX12_hasSheet 9 = .ok (.iconst 2, 1) := by decide +kernel
theorem dX12_hasSheet_10 : decode cX12_hasSheet 10 = .ok (.iaload, 1) := by decide +kernel
theorem dX12_hasSheet_11 : decode cX12_hasSheet 11 = .ok (.if_icmp .ge 39, 3) := by decide +kernel
theorem dX12_hasSheet_14 : decode cX12_hasSheet 14 = .ok (.iload_n 2, 1) := by decide +kernel
theorem dX12_hasSheet_15 : decode cX12_hasSheet 15 = .ok (.ifCond .ne 23, 3) := by decide +kernel
theorem dX12_hasSheet_18 : decode cX12_hasSheet 18 = .ok (.aload_n 0, 1) := by decide +kernel
theorem dX12_hasSheet_19 : decode cX12_hasSheet 19 = .ok (.getfield 28, 3) := by decide +kernel
theorem dX12_hasSheet_22 : decode cX12_hasSheet 22 = .ok (.iload_n 3, 1) := by decide +kernel
theorem dX12_hasSheet_23 : decode cX12_hasSheet 23 = .ok (.iaload, 1) := by decide +kernel
theorem dX12_hasSheet_24 : decode cX12_hasSheet 24 = .ok (.iload_n 1, 1) := by decide +kernel
theorem dX12_hasSheet_25 : decode cX12_hasSheet 25 = .ok (.if_icmp .ne 17, 3) := by decide +kernel
theorem dX12_hasSheet_28 : decode cX12_hasSheet 28 = .ok (.aload_n 0, 1) := by decide +kernel
theorem dX12_hasSheet_29 : decode cX12_hasSheet 29 = .ok (.iload_n 3, 1) := by decide +kernel
theorem dX12_hasSheet_30 : decode cX12_hasSheet 30 = .ok (.iconst 0, 1) := by decide +kernel
theorem dX12_hasSheet_31 : decode cX12_hasSheet 31 = .ok (.invokevirtual 202, 3) := by decide +kernel
theorem dX12_hasSheet_34 : decode cX12_hasSheet 34 = .ok (.iconst 4, 1) := by decide +kernel
theorem dX12_hasSheet_35 : decode cX12_hasSheet 35 = .ok (.if_icmp .ne 7, 3) := by decide +kernel
theorem dX12_hasSheet_38 : decode cX12_hasSheet 38 = .ok (.iconst 1, 1) := by decide +kernel
theorem dX12_hasSheet_39 : decode cX12_hasSheet 39 = .ok (.goto 4, 3) := by decide +kernel
theorem dX12_hasSheet_42 : decode cX12_hasSheet 42 = .ok (.iconst 0, 1) := by decide +kernel
theorem dX12_hasSheet_43 : decode cX12_hasSheet 43 = .ok (.istore_n 2, 1) := by decide +kernel
theorem dX12_hasSheet_44 : decode cX12_hasSheet 44 = .ok (.iinc 3 1, 3) := by decide +kernel
theorem dX12_hasSheet_47 : decode cX12_hasSheet 47 = .ok (.goto (-43), 3) := by decide +kernel
theorem dX12_hasSheet_50 : decode cX12_hasSheet 50 = .ok (.iload_n 2, 1) := by decide +kernel
theorem dX12_hasSheet_51 : decode cX12_hasSheet 51 = .ok (.ireturn, 1) := by decide +kernel
theorem dX12_comes_0 : decode cX12_comes 0 = .ok (.aload_n 0, 1) := by decide +kernel
theorem dX12_comes_1 : decode cX12_comes 1 = .ok (.iload_n 2, 1) := by decide +kernel
theorem dX12_comes_2 : decode cX12_comes 2 = .ok (.invokevirtual 205, 3) := by decide +kernel
theorem dX12_comes_5 : decode cX12_comes 5 = .ok (.istore_n 3, 1) := by decide +kernel
theorem dX12_comes_6 : decode cX12_comes 6 = .ok (.aload_n 0, 1) := by decide +kernel
theorem dX12_comes_7 : decode cX12_comes 7 = .ok (.getfield 28, 3) := by decide +kernel
theorem dX12_comes_10 : decode cX12_comes 10 = .ok (.iload_n 1, 1) := by decide +kernel
theorem dX12_comes_11 : decode cX12_comes 11 = .ok (.iaload, 1) := by decide +kernel
theorem dX12_comes_12 : decode cX12_comes 12 = .ok (.ldc 89, 2) := by decide +kernel
theorem dX12_comes_14 : decode cX12_comes 14 = .ok (.if_icmp .ne 20, 3) := by decide +kernel
theorem dX12_comes_17 : decode cX12_comes 17 = .ok (.iload_n 3, 1) := by decide +kernel
theorem dX12_comes_18 : decode cX12_comes 18 = .ok (.ifCond .eq 19, 3) := by decide +kernel
theorem dX12_comes_21 : decode cX12_comes 21 = .ok (.iload_n 3, 1) := by decide +kernel
theorem dX12_comes_22 : decode cX12_comes 22 = .ok (.aload_n 0, 1) := by decide +kernel
theorem dX12_comes_23 : decode cX12_comes 23 = .ok (.iload_n 1, 1) := by decide +kernel
theorem dX12_comes_24 : decode cX12_comes 24 = .ok (.iconst 1, 1) := by decide +kernel
theorem dX12_comes_25 : decode cX12_comes 25 = .ok (.invokevirtual 202, 3) := by decide +kernel
theorem dX12_comes_28 : decode cX12_comes 28 = .ok (.ishr, 1) := by decide +kernel
theorem dX12_comes_29 : decode cX12_comes 29 = .ok (.iconst 1, 1) := by decide +kernel
theorem dX12_comes_30 : decode cX12_comes 30 = .ok (.iand, 1) := by decide +kernel
theorem dX12_comes_31 : decode cX12_comes 31 = .ok (.ifCond .ne 6, 3) := by decide +kernel
theorem dX12_comes_34 : decode cX12_comes 34 = .ok (.ldc 208, 2) := by decide +kernel
theorem dX12_comes_36 : decode cX12_comes 36 = .ok (.ireturn, 1) := by decide +kernel
theorem dX12_comes_37 : decode cX12_comes 37 = .ok (.aload_n 0, 1) := by decide +kernel
theorem dX12_comes_38 : decode cX12_comes 38 = .ok (.iload_n 2, 1) := by decide +kernel
theorem dX12_comes_39 : decode cX12_comes 39 = .ok (.invokevirtual 209, 3) := by decide +kernel
theorem dX12_comes_42 : decode cX12_comes 42 = .ok (.istore 4, 2) := by decide +kernel
theorem dX12_comes_44 : decode cX12_comes 44 = .ok (.aload_n 0, 1) := by decide +kernel
theorem dX12_comes_45 : decode cX12_comes 45 = .ok (.iload_n 1, 1) := by decide +kernel
theorem dX12_comes_46 : decode cX12_comes 46 = .ok (.iconst 0, 1) := by decide +kernel
theorem dX12_comes_47 : decode cX12_comes 47 = .ok (.invokevirtual 202, 3) := by decide +kernel
theorem dX12_comes_50 : decode cX12_comes 50 = .ok (.iconst 4, 1) := by decide +kernel
theorem dX12_comes_51 : decode cX12_comes 51 = .ok (.if_icmp .ne 7, 3) := by decide +kernel
theorem dX12_comes_54 : decode cX12_comes 54 = .ok (.iconst 1, 1) := by decide +kernel
theorem dX12_comes_55 : decode cX12_comes 55 = .ok (.goto 4, 3) := by decide +kernel
theorem dX12_comes_58 : decode cX12_comes 58 = .ok (.iconst 0, 1) := by decide +kernel
theorem dX12_comes_59 : decode cX12_comes 59 = .ok (.istore 5, 2) := by decide +kernel
theorem dX12_comes_61 : decode cX12_comes 61 = .ok (.aload_n 0, 1) := by decide +kernel
theorem dX12_comes_62 : decode cX12_comes 62 = .ok (.getfield 19, 3) := by decide +kernel
theorem dX12_comes_65 : decode cX12_comes 65 = .ok (.bipush 28, 2) := by decide +kernel
theorem dX12_comes_67 : decode cX12_comes 67 = .ok (.iconst 3, 1) := by decide +kernel
theorem dX12_comes_68 : decode cX12_comes 68 = .ok (.iload_n 2, 1) := by decide +kernel
theorem dX12_comes_69 : decode cX12_comes 69 = .ok (.imul, 1) := by decide +kernel
theorem dX12_comes_70 : decode cX12_comes 70 = .ok (.iadd, 1) := by decide +kernel
theorem dX12_comes_71 : decode cX12_comes 71 = .ok (.iconst 2, 1) := by decide +kernel
theorem dX12_comes_72 : decode cX12_comes 72 = .ok (.iadd, 1) := by decide +kernel
theorem dX12_comes_73 : decode cX12_comes 73 = .ok (.iaload, 1) := by decide +kernel
theorem dX12_comes_74 : decode cX12_comes 74 = .ok (.iload 4, 2) := by decide +kernel
theorem dX12_comes_76 : decode cX12_comes 76 = .ok (.isub, 1) := by decide +kernel
theorem dX12_comes_77 : decode cX12_comes 77 = .ok (.aload_n 0, 1) := by decide +kernel
theorem dX12_comes_78 : decode cX12_comes 78 = .ok (.iload_n 1, 1) := by decide +kernel
theorem dX12_comes_79 : decode cX12_comes 79 = .ok (.iconst 3, 1) := by decide +kernel
theorem dX12_comes_80 : decode cX12_comes 80 = .ok (.invokevirtual 202, 3) := by decide +kernel
theorem dX12_comes_83 : decode cX12_comes 83 = .ok (.isub, 1) := by decide +kernel
theorem dX12_comes_84 : decode cX12_comes 84 = .ok (.istore 6, 2) := by decide +kernel
theorem dX12_comes_86 : decode cX12_comes 86 = .ok (.iload 6, 2) := by decide +kernel
theorem dX12_comes_88 : decode cX12_comes 88 = .ok (.ifCond .lt 21, 3) := by decide +kernel
theorem dX12_comes_91 : decode cX12_comes 91 = .ok (.aload_n 0, 1) := by decide +kernel
theorem dX12_comes_92 : decode cX12_comes 92 = .ok (.iload_n 2, 1) := by decide +kernel
theorem dX12_comes_93 : decode cX12_comes 93 = .ok (.invokevirtual 212, 3) := by decide +kernel
theorem dX12_comes_96 : decode cX12_comes 96 = .ok (.ifCond .ne 13, 3) := by decide +kernel
theorem dX12_comes_99 : decode cX12_comes 99 = .ok (.iload 5, 2) := by decide +kernel
theorem dX12_comes_101 : decode cX12_comes 101 = .ok (.ifCond .eq 11, 3) := by decide +kernel
theorem dX12_comes_104 : decode cX12_comes 104 = .ok (.iload 4, 2) := by decide +kernel
theorem dX12_comes_106 : decode cX12_comes 106 = .ok (.ifCond .le 6, 3) := by decide +kernel
theorem dX12_comes_109 : decode cX12_comes 109 = .ok (.ldc 83, 2) := by decide +kernel
theorem dX12_comes_111 : decode cX12_comes 111 = .ok (.ireturn, 1) := by decide +kernel
theorem dX12_comes_112 : decode cX12_comes 112 = .ok (.aload_n 0, 1) := by decide +kernel
theorem dX12_comes_113 : decode cX12_comes 113 = .ok (.getfield 28, 3) := by decide +kernel
theorem dX12_comes_116 : decode cX12_comes 116 = .ok (.iload_n 1, 1) := by decide +kernel
theorem dX12_comes_117 : decode cX12_comes 117 = .ok (.iload_n 2, 1) := by decide +kernel
theorem dX12_comes_118 : decode cX12_comes 118 = .ok (.iastore, 1) := by decide +kernel
theorem dX12_comes_119 : decode cX12_comes 119 = .ok (.iload 5, 2) := by decide +kernel
theorem dX12_comes_121 : decode cX12_comes 121 = .ok (.ifCond .eq 7, 3) := by decide +kernel
theorem dX12_comes_124 : decode cX12_comes 124 = .ok (.iconst 0, 1) := by decide +kernel
theorem dX12_comes_125 : decode cX12_comes 125 = .ok (.goto 5, 3) := by decide +kernel
theorem dX12_comes_128 : decode cX12_comes 128 = .ok (.iload 6, 2) := by decide +kernel
theorem dX12_comes_130 : decode cX12_comes 130 = .ok (.ireturn, 1) := by decide +kernel
theorem dX12_hang_0 : decode cX12_hang 0 = .ok (.aload_n 0, 1) := by decide +kernel
theorem dX12_hang_1 : decode cX12_hang 1 = .ok (.iconst 0, 1) := by decide +kernel
theorem dX12_hang_2 : decode cX12_hang 2 = .ok (.putfield 53, 3) := by decide +kernel
theorem dX12_hang_5 : decode cX12_hang 5 = .ok (.aload_n 0, 1) := by decide +kernel
theorem dX12_hang_6 : decode cX12_hang 6 = .ok (.iload_n 1, 1) := by decide +kernel
theorem dX12_hang_7 : decode cX12_hang 7 = .ok (.invokevirtual 215, 3) := by decide +kernel
theorem dX12_hang_10 : decode cX12_hang 10 = .ok (.ifCond .eq 11, 3) := by decide +kernel
theorem dX12_hang_13 : decode cX12_hang 13 = .ok (.aload_n 0, 1) := by decide +kernel
theorem dX12_hang_14 : decode cX12_hang 14 = .ok (.iload_n 2, 1) := by decide +kernel
theorem dX12_hang_15 : decode cX12_hang 15 = .ok (.invokevirtual 218, 3) := by decide +kernel
theorem dX12_hang_18 : decode cX12_hang 18 = .ok (.ifCond .ne 6, 3) := by decide +kernel
theorem dX12_hang_21 : decode cX12_hang 21 = .ok (.ldc 73, 2) := by decide +kernel
theorem dX12_hang_23 : decode cX12_hang 23 = .ok (.ireturn, 1) := by decide +kernel
theorem dX12_hang_24 : decode cX12_hang 24 = .ok (.aload_n 0, 1) := by decide +kernel
theorem dX12_hang_25 : decode cX12_hang 25 = .ok (.invokevirtual 221, 3) := by decide +kernel
theorem dX12_hang_28 : decode cX12_hang 28 = .ok (.aload_n 0, 1) := by decide +kernel
theorem dX12_hang_29 : decode cX12_hang 29 = .ok (.iload_n 1, 1) := by decide +kernel
theorem dX12_hang_30 : decode cX12_hang 30 = .ok (.iload_n 2, 1) := by decide +kernel
theorem dX12_hang_31 : decode cX12_hang 31 = .ok (.invokevirtual 224, 3) := by decide +kernel
theorem dX12_hang_34 : decode cX12_hang 34 = .ok (.istore_n 3, 1) := by decide +kernel
theorem dX12_hang_35 : decode cX12_hang 35 = .ok (.aload_n 0, 1) := by decide +kernel
theorem dX12_hang_36 : decode cX12_hang 36 = .ok (.invokevirtual 227, 3) := by decide +kernel
theorem dX12_hang_39 : decode cX12_hang 39 = .ok (.iload_n 3, 1) := by decide +kernel
theorem dX12_hang_40 : decode cX12_hang 40 = .ok (.ireturn, 1) := by decide +kernel
theorem dX12_take_0 : decode cX12_take 0 = .ok (.aload_n 0, 1) := by decide +kernel
theorem dX12_take_1 : decode cX12_take 1 = .ok (.iconst 0, 1) := by decide +kernel
theorem dX12_take_2 : decode cX12_take 2 = .ok (.putfield 53, 3) := by decide +kernel
theorem dX12_take_5 : decode cX12_take 5 = .ok (.aload_n 0, 1) := by decide +kernel
theorem dX12_take_6 : decode cX12_take 6 = .ok (.iload_n 1, 1) := by decide +kernel
theorem dX12_take_7 : decode cX12_take 7 = .ok (.invokevirtual 215, 3) := by decide +kernel
theorem dX12_take_10 : decode cX12_take 10 = .ok (.ifCond .ne 6, 3) := by decide +kernel
theorem dX12_take_13 : decode cX12_take 13 = .ok (.ldc 73, 2) := by decide +kernel
theorem dX12_take_15 : decode cX12_take 15 = .ok (.ireturn, 1) := by decide +kernel
theorem dX12_take_16 : decode cX12_take 16 = .ok (.aload_n 0, 1) := by decide +kernel
theorem dX12_take_17 : decode cX12_take 17 = .ok (.iload_n 1, 1) := by decide +kernel
theorem dX12_take_18 : decode cX12_take 18 = .ok (.iconst 4, 1) := by decide +kernel
theorem dX12_take_19 : decode cX12_take 19 = .ok (.invokevirtual 202, 3) := by decide +kernel
theorem dX12_take_22 : decode cX12_take 22 = .ok (.istore_n 2, 1) := by decide +kernel
theorem dX12_take_23 : decode cX12_take 23 = .ok (.iload_n 2, 1) := by decide +kernel
theorem dX12_take_24 : decode cX12_take 24 = .ok (.ldc 89, 2) := by decide +kernel
theorem dX12_take_26 : decode cX12_take 26 = .ok (.if_icmp .ne 6, 3) := by decide +kernel
theorem dX12_take_29 : decode cX12_take 29 = .ok (.ldc 208, 2) := by decide +kernel
theorem dX12_take_31 : decode cX12_take 31 = .ok (.ireturn, 1) := by decide +kernel
theorem dX12_take_32 : decode cX12_take 32 = .ok (.aload_n 0, 1) := by decide +kernel
theorem dX12_take_33 : decode cX12_take 33 = .ok (.getfield 19, 3) := by decide +kernel
theorem dX12_take_36 : decode cX12_take 36 = .ok (.bipush 84, 2) := by decide +kernel
theorem dX12_take_38 : decode cX12_take 38 = .ok (.bipush 6, 2) := by decide +kernel
theorem dX12_take_40 : decode cX12_take 40 = .ok (.iload_n 1, 1) := by decide +kernel
theorem dX12_take_41 : decode cX12_take 41 = .ok (.imul, 1) := by decide +kernel
theorem dX12_take_42 : decode cX12_take 42 = .ok (.iadd, 1) := by decide +kernel
theorem dX12_take_43 : decode cX12_take 43 = .ok (.iconst 4, 1) := by decide +kernel
theorem dX12_take_44 : decode cX12_take 44 = .ok (.iadd, 1) := by decide +kernel
theorem dX12_take_45 : decode cX12_take 45 = .ok (.ldc 89, 2) := by decide +kernel
theorem dX12_take_47 : decode cX12_take 47 = .ok (.iastore, 1) := by decide +kernel
theorem dX12_take_48 : decode cX12_take 48 = .ok (.iload_n 2, 1) := by decide +kernel
theorem dX12_take_49 : decode cX12_take 49 = .ok (.ireturn, 1) := by decide +kernel
theorem dX12_hasSun_0 : decode cX12_hasSun 0 = .ok (.aload_n 0, 1) := by decide +kernel
theorem dX12_hasSun_1 : decode cX12_hasSun 1 = .ok (.iload_n 1, 1) := by decide +kernel
theorem dX12_hasSun_2 : decode cX12_hasSun 2 = .ok (.invokevirtual 196, 3) := by decide +kernel
theorem dX12_hasSun_5 : decode cX12_hasSun 5 = .ok (.aload_n 0, 1) := by decide +kernel
theorem dX12_hasSun_6 : decode cX12_hasSun 6 = .ok (.getfield 19, 3) := by decide +kernel
theorem dX12_hasSun_9 : decode cX12_hasSun 9 = .ok (.iconst 4, 1) := by decide +kernel
theorem dX12_hasSun_10 : decode cX12_hasSun 10 = .ok (.iload_n 2, 1) := by decide +kernel
theorem dX12_hasSun_11 : decode cX12_hasSun 11 = .ok (.bipush 24, 2) := by decide +kernel
theorem dX12_hasSun_13 : decode cX12_hasSun 13 = .ok (.irem, 1) := by decide +kernel
theorem dX12_hasSun_14 : decode cX12_hasSun 14 = .ok (.iadd, 1) := by decide +kernel
theorem dX12_hasSun_15 : decode cX12_hasSun 15 = .ok (.iaload, 1) := by decide +kernel
theorem dX12_hasSun_16 : decode cX12_hasSun 16 = .ok (.bipush 10, 2) := by decide +kernel
theorem dX12_hasSun_18 : decode cX12_hasSun 18 = .ok (.idiv, 1) := by decide +kernel
theorem dX12_hasSun_19 : decode cX12_hasSun 19 = .ok (.iload_n 3, 1) := by decide +kernel
theorem dX12_hasSun_20 : decode cX12_hasSun 20 = .ok (.iadd, 1) := by decide +kernel
theorem dX12_hasSun_21 : decode cX12_hasSun 21 = .ok (.if_icmp .lt 7, 3) := by decide +kernel
theorem dX12_hasSun_24 : decode cX12_hasSun 24 = .ok (.iconst 1, 1) := by decide +kernel
theorem dX12_hasSun_25 : decode cX12_hasSun 25 = .ok (.goto 4, 3) := by decide +kernel
theorem dX12_hasSun_28 : decode cX12_hasSun 28 = .ok (.iconst 0, 1) := by decide +kernel
theorem dX12_hasSun_29 : decode cX12_hasSun 29 = .ok (.ireturn, 1) := by decide +kernel
theorem dX12_dries_0 : decode cX12_dries 0 = .ok (.aload_n 0, 1) := by decide +kernel
theorem dX12_dries_1 : decode cX12_dries 1 = .ok (.iload_n 1, 1) := by decide +kernel
theorem dX12_dries_2 : decode cX12_dries 2 = .ok (.iconst 0, 1) := by decide +kernel
theorem dX12_dries_3 : decode cX12_dries 3 = .ok (.invokevirtual 202, 3) := by decide +kernel
theorem dX12_dries_6 : decode cX12_dries 6 = .ok (.istore_n 3, 1) := by decide +kernel
theorem dX12_dries_7 : decode cX12_dries 7 = .ok (.aload_n 0, 1) := by decide +kernel
theorem dX12_dries_8 : decode cX12_dries 8 = .ok (.getfield 19, 3) := by decide +kernel
theorem dX12_dries_11 : decode cX12_dries 11 = .ok (.iconst 4, 1) := by decide +kernel
theorem dX12_dries_12 : decode cX12_dries 12 = .ok (.iload_n 2, 1) := by decide +kernel
theorem dX12_dries_13 : decode cX12_dries 13 = .ok (.bipush 24, 2) := by decide +kernel
theorem dX12_dries_15 : decode cX12_dries 15 = .ok (.irem, 1) := by decide +kernel
theorem dX12_dries_16 : decode cX12_dries 16 = .ok (.iadd, 1) := by decide +kernel
theorem dX12_dries_17 : decode cX12_dries 17 = .ok (.iaload, 1) := by decide +kernel
theorem dX12_dries_18 : decode cX12_dries 18 = .ok (.bipush 10, 2) := by decide +kernel
theorem dX12_dries_20 : decode cX12_dries 20 = .ok (.irem, 1) := by decide +kernel
theorem dX12_dries_21 : decode cX12_dries 21 = .ok (.aload_n 0, 1) := by decide +kernel
theorem dX12_dries_22 : decode cX12_dries 22 = .ok (.aload_n 0, 1) := by decide +kernel
theorem dX12_dries_23 : decode cX12_dries 23 = .ok (.getfield 28, 3) := by decide +kernel
theorem dX12_dries_26 : decode cX12_dries 26 = .ok (.iload_n 1, 1) := by decide +kernel
theorem dX12_dries_27 : decode cX12_dries 27 = .ok (.iaload, 1) := by decide +kernel
theorem dX12_dries_28 : decode cX12_dries 28 = .ok (.iload_n 2, 1) := by decide +kernel
theorem dX12_dries_29 : decode cX12_dries 29 = .ok (.iconst 0, 1) := by decide +kernel
theorem dX12_dries_30 : decode cX12_dries 30 = .ok (.invokevirtual 230, 3) := by decide +kernel
theorem dX12_dries_33 : decode cX12_dries 33 = .ok (.ifCond .eq 7, 3) := by decide +kernel
theorem dX12_dries_36 : decode cX12_dries 36 = .ok (.iconst 2, 1) := by decide +kernel
theorem dX12_dries_37 : decode cX12_dries 37 = .ok (.goto 4, 3) := by decide +kernel
theorem dX12_dries_40 : decode cX12_dries 40 = .ok (.iconst 0, 1) := by decide +kernel
theorem dX12_dries_41 : decode cX12_dries 41 = .ok (.iadd, 1) := by decide +kernel
theorem dX12_dries_42 : decode cX12_dries 42 = .ok (.iload_n 3, 1) := by decide +kernel
theorem dX12_dries_43 : decode cX12_dries 43 = .ok (.iconst 3, 1) := by decide +kernel
theorem dX12_dries_44 : decode cX12_dries 44 = .ok (.if_icmp .eq 8, 3) := by decide +kernel
theorem dX12_dries_47 : decode cX12_dries 47 = .ok (.iload_n 3, 1) := by decide +kernel
theorem dX12_dries_48 : decode cX12_dries 48 = .ok (.iconst 5, 1) := by decide +kernel
theorem dX12_dries_49 : decode cX12_dries 49 = .ok (.if_icmp .ne 7, 3) := by decide +kernel
theorem dX12_dries_52 : decode cX12_dries 52 = .ok (.iconst 2, 1) := by decide +kernel
theorem dX12_dries_53 : decode cX12_dries 53 = .ok (.goto 4, 3) := by decide +kernel
theorem dX12_dries_56 : decode cX12_dries 56 = .ok (.iconst 0, 1) := by decide +kernel
theorem dX12_dries_57 : decode cX12_dries 57 = .ok (.isub, 1) := by decide +kernel
theorem dX12_dries_58 : decode cX12_dries 58 = .ok (.istore 4, 2) := by decide +kernel
theorem dX12_dries_60 : decode cX12_dries 60 = .ok (.aload_n 0, 1) := by decide +kernel
theorem dX12_dries_61 : decode cX12_dries 61 = .ok (.getfield 31, 3) := by decide +kernel
theorem dX12_dries_64 : decode cX12_dries 64 = .ok (.iload_n 1, 1) := by decide +kernel
theorem dX12_dries_65 : decode cX12_dries 65 = .ok (.iaload, 1) := by decide +kernel
theorem dX12_dries_66 : decode cX12_dries 66 = .ok (.iload 4, 2) := by decide +kernel
theorem dX12_dries_68 : decode cX12_dries 68 = .ok (.ifCond .ge 7, 3) := by decide +kernel
theorem dX12_dries_71 : decode cX12_dries 71 = .ok (.iconst 0, 1) := by decide +kernel
theorem dX12_dries_72 : decode cX12_dries 72 = .ok (.goto 5, 3) := by decide +kernel
theorem dX12_dries_75 : decode cX12_dries 75 = .ok (.iload 4, 2) := by decide +kernel
theorem dX12_dries_77 : decode cX12_dries 77 = .ok (.isub, 1) := by decide +kernel
theorem dX12_dries_78 : decode cX12_dries 78 = .ok (.istore 5, 2) := by decide +kernel
theorem dX12_dries_80 : decode cX12_dries 80 = .ok (.aload_n 0, 1) := by decide +kernel
theorem dX12_dries_81 : decode cX12_dries 81 = .ok (.getfield 31, 3) := by decide +kernel
theorem dX12_dries_84 : decode cX12_dries 84 = .ok (.iload_n 1, 1) := by decide +kernel
theorem dX12_dries_85 : decode cX12_dries 85 = .ok (.iload 5, 2) := by decide +kernel
theorem dX12_dries_87 : decode cX12_dries 87 = .ok (.ifCond .ge 7, 3) := by decide +kernel
theorem dX12_dries_90 : decode cX12_dries 90 = .ok (.iconst 0, 1) := by decide +kernel
theorem dX12_dries_91 : decode cX12_dries 91 = .ok (.goto 5, 3) := by decide +kernel
theorem dX12_dries_94 : decode cX12_dries 94 = .ok (.iload 5, 2) := by decide +kernel
theorem dX12_dries_96 : decode cX12_dries 96 = .ok (.iastore, 1) := by decide +kernel
theorem dX12_dries_97 : decode cX12_dries 97 = .ok (.return_, 1) := by decide +kernel
theorem dX12_isReddish_0 : decode cX12_isReddish 0 = .ok (.aload_n 0, 1) := by decide +kernel
theorem dX12_isReddish_1 : decode cX12_isReddish 1 = .ok (.iload_n 1, 1) := by decide +kernel
theorem dX12_isReddish_2 : decode cX12_isReddish 2 = .ok (.iconst 0, 1) := by decide +kernel
theorem dX12_isReddish_3 : decode cX12_isReddish 3 = .ok (.invokevirtual 202, 3) := by decide +kernel
theorem dX12_isReddish_6 : decode cX12_isReddish 6 = .ok (.iconst 1, 1) := by decide +kernel
theorem dX12_isReddish_7 : decode cX12_isReddish 7 = .ok (.if_icmp .eq 13, 3) := by decide +kernel
theorem dX12_isReddish_10 : decode cX12_isReddish 10 = .ok (.aload_n 0, 1) := by decide +kernel
theorem dX12_isReddish_11 : decode cX12_isReddish 11 = .ok (.iload_n 1, 1) := by decide +kernel
theorem dX12_isReddish_12 : decode cX12_isReddish 12 = .ok (.iconst 0, 1) := by decide +kernel
theorem dX12_isReddish_13 : decode cX12_isReddish 13 = .ok (.invokevirtual 202, 3) := by decide +kernel
theorem dX12_isReddish_16 : decode cX12_isReddish 16 = .ok (.iconst 2, 1) := by decide +kernel
theorem dX12_isReddish_17 : decode cX12_isReddish 17 = .ok (.if_icmp .ne 7, 3) := by decide +kernel
theorem dX12_isReddish_20 : decode cX12_isReddish 20 = .ok (.iconst 1, 1) := by decide +kernel
theorem dX12_isReddish_21 : decode cX12_isReddish 21 = .ok (.goto 4, 3) := by decide +kernel
theorem dX12_isReddish_24 : decode cX12_isReddish 24 = .ok (.iconst 0, 1) := by decide +kernel
theorem dX12_isReddish_25 : decode cX12_isReddish 25 = .ok (.ireturn, 1) := by decide +kernel
theorem dX12_goOn_0 : decode cX12_goOn 0 = .ok (.iconst 0, 1) := by decide +kernel
theorem dX12_goOn_1 : decode cX12_goOn 1 = .ok (.istore_n 2, 1) := by decide +kernel
theorem dX12_goOn_2 : decode cX12_goOn 2 = .ok (.iload_n 2, 1) := by decide +kernel
theorem dX12_goOn_3 : decode cX12_goOn 3 = .ok (.aload_n 0, 1) := by decide +kernel
theorem dX12_goOn_4 : decode cX12_goOn 4 = .ok (.getfield 19, 3) := by decide +kernel
theorem dX12_goOn_7 : decode cX12_goOn 7 = .ok (.iconst 2, 1) := by decide +kernel
theorem dX12_goOn_8 : decode cX12_goOn 8 = .ok (.iaload, 1) := by decide +kernel
theorem dX12_goOn_9 : decode cX12_goOn 9 = .ok (.if_icmp .ge 26, 3) := by decide +kernel
theorem dX12_goOn_12 : decode cX12_goOn 12 = .ok (.aload_n 0, 1) := by decide +kernel
theorem dX12_goOn_13 : decode cX12_goOn 13 = .ok (.getfield 28, 3) := by decide +kernel
theorem dX12_goOn_16 : decode cX12_goOn 16 = .ok (.iload_n 2, 1) := by decide +kernel
theorem dX12_goOn_17 : decode cX12_goOn 17 = .ok (.iaload, 1) := by decide +kernel
theorem dX12_goOn_18 : decode cX12_goOn 18 = .ok (.ldc 89, 2) := by decide +kernel
theorem dX12_goOn_20 : decode cX12_goOn 20 = .ok (.if_icmp .eq 9, 3) := by decide +kernel
theorem dX12_goOn_23 : decode cX12_goOn 23 = .ok (.aload_n 0, 1) := by decide +kernel
theorem dX12_goOn_24 : decode cX12_goOn 24 = .ok (.iload_n 2, 1) := by decide +kernel
theorem dX12_goOn_25 : decode cX12_goOn 25 = .ok (.iload_n 1, 1) := by decide +kernel
theorem dX12_goOn_26 : decode cX12_goOn 26 = .ok (.invokevirtual 234, 3) := by decide +kernel
theorem dX12_goOn_29 : decode cX12_goOn 29 = .ok (.iinc 2 1, 3) := by decide +kernel
theorem dX12_goOn_32 : decode cX12_goOn 32 = .ok (.goto (-30), 3) := by decide +kernel
theorem dX12_goOn_35 : decode cX12_goOn 35 = .ok (.iconst 0, 1) := by decide +kernel
theorem dX12_goOn_36 : decode cX12_goOn 36 = .ok (.istore_n 2, 1) := by decide +kernel
theorem dX12_goOn_37 : decode cX12_goOn 37 = .ok (.iconst 0, 1) := by decide +kernel
theorem dX12_goOn_38 : decode cX12_goOn 38 = .ok (.istore_n 3, 1) := by decide +kernel
theorem dX12_goOn_39 : decode cX12_goOn 39 = .ok (.iload_n 3, 1) := by decide +kernel
theorem dX12_goOn_40 : decode cX12_goOn 40 = .ok (.aload_n 0, 1) := by decide +kernel
theorem dX12_goOn_41 : decode cX12_goOn 41 = .ok (.getfield 19, 3) := by decide +kernel
theorem dX12_goOn_44 : decode cX12_goOn 44 = .ok (.iconst 2, 1) := by decide +kernel
theorem dX12_goOn_45 : decode cX12_goOn 45 = .ok (.iaload, 1) := by decide +kernel
theorem dX12_goOn_46 : decode cX12_goOn 46 = .ok (.if_icmp .ge 41, 3) := by decide +kernel
theorem dX12_goOn_49 : decode cX12_goOn 49 = .ok (.iload_n 2, 1) := by decide +kernel
theorem dX12_goOn_50 : decode cX12_goOn 50 = .ok (.aload_n 0, 1) := by decide +kernel
theorem dX12_goOn_51 : decode cX12_goOn 51 = .ok (.getfield 28, 3) := by decide +kernel
theorem dX12_goOn_54 : decode cX12_goOn 54 = .ok (.iload_n 3, 1) := by decide +kernel
theorem dX12_goOn_55 : decode cX12_goOn 55 = .ok (.iaload, 1) := by decide +kernel
theorem dX12_goOn_56 : decode cX12_goOn 56 = .ok (.ldc 89, 2) := by decide +kernel
theorem dX12_goOn_58 : decode cX12_goOn 58 = .ok (.if_icmp .eq 20, 3) := by decide +kernel
theorem dX12_goOn_61 : decode cX12_goOn 61 = .ok (.aload_n 0, 1) := by decide +kernel
theorem dX12_goOn_62 : decode cX12_goOn 62 = .ok (.getfield 31, 3) := by decide +kernel
theorem dX12_goOn_65 : decode cX12_goOn 65 = .ok (.iload_n 3, 1) := by decide +kernel
theorem dX12_goOn_66 : decode cX12_goOn 66 = .ok (.iaload, 1) := by decide +kernel
theorem dX12_goOn_67 : decode cX12_goOn 67 = .ok (.bipush 30, 2) := by decide +kernel
theorem dX12_goOn_69 : decode cX12_goOn 69 = .ok (.if_icmp .le 9, 3) := by decide +kernel
theorem dX12_goOn_72 : decode cX12_goOn 72 = .ok (.iconst 1, 1) := by decide +kernel
theorem dX12_goOn_73 : decode cX12_goOn 73 = .ok (.iload_n 3, 1) := by decide +kernel
theorem dX12_goOn_74 : decode cX12_goOn 74 = .ok (.ishl, 1) := by decide +kernel
theorem dX12_goOn_75 : decode cX12_goOn 75 = .ok (.goto 4, 3) := by decide +kernel
theorem dX12_goOn_78 : decode cX12_goOn 78 = .ok (.iconst 0, 1) := by decide +kernel
theorem dX12_goOn_79 : decode cX12_goOn 79 = .ok (.ior, 1) := by decide +kernel
theorem dX12_goOn_80 : decode cX12_goOn 80 = .ok (.istore_n 2, 1) := by decide +kernel
theorem dX12_goOn_81 : decode cX12_goOn 81 = .ok (.iinc 3 1, 3) := by decide +kernel
theorem dX12_goOn_84 : decode cX12_goOn 84 = .ok (.goto (-45), 3) := by decide +kernel
theorem dX12_goOn_87 : decode cX12_goOn 87 = .ok (.iconst 0, 1) := by decide +kernel
theorem dX12_goOn_88 : decode cX12_goOn 88 = .ok (.istore_n 3, 1) := by decide +kernel
theorem dX12_goOn_89 : decode cX12_goOn 89 = .ok (.iload_n 3, 1) := by decide +kernel
theorem dX12_goOn_90 : decode cX12_goOn 90 = .ok (.aload_n 0, 1) := by decide +kernel
theorem dX12_goOn_91 : decode cX12_goOn 91 = .ok (.getfield 19, 3) := by decide +kernel
theorem dX12_goOn_94 : decode cX12_goOn 94 = .ok (.iconst 2, 1) := by decide +kernel
theorem dX12_goOn_95 : decode cX12_goOn 95 = .ok (.iaload, 1) := by decide +kernel
theorem dX12_goOn_96 : decode cX12_goOn 96 = .ok (.if_icmp .ge 145, 3) := by decide +kernel
theorem dX12_goOn_99 : decode cX12_goOn 99 = .ok (.iload_n 2, 1) := by decide +kernel
theorem dX12_goOn_100 : decode cX12_goOn 100 = .ok (.iload_n 3, 1) := by decide +kernel
theorem dX12_goOn_101 : decode cX12_goOn 101 = .ok (.ishr, 1) := by decide +kernel
theorem dX12_goOn_102 : decode cX12_goOn 102 = .ok (.iconst 1, 1) := by decide +kernel
theorem dX12_goOn_103 : decode cX12_goOn 103 = .ok (.iand, 1) := by decide +kernel
theorem dX12_goOn_104 : decode cX12_goOn 104 = .ok (.iconst 1, 1) := by decide +kernel
theorem dX12_goOn_105 : decode cX12_goOn 105 = .ok (.if_icmp .ne 16, 3) := by decide +kernel
theorem dX12_goOn_108 : decode cX12_goOn 108 = .ok (.aload_n 0, 1) := by decide +kernel
theorem dX12_goOn_109 : decode cX12_goOn 109 = .ok (.aload_n 0, 1) := by decide +kernel
theorem dX12_goOn_110 : decode cX12_goOn 110 = .ok (.getfield 28, 3) := by decide +kernel
theorem dX12_goOn_113 : decode cX12_goOn 113 = .ok (.iload_n 3, 1) := by decide +kernel
theorem dX12_goOn_114 : decode cX12_goOn 114 = .ok (.iaload, 1) := by decide +kernel
theorem dX12_goOn_115 : decode cX12_goOn 115 = .ok (.invokevirtual 237, 3) := by decide +kernel
theorem dX12_goOn_118 : decode cX12_goOn 118 = .ok (.goto 5, 3) := by decide +kernel
theorem dX12_goOn_121 : decode cX12_goOn 121 = .ok (.ldc 89, 2) := by decide +kernel
theorem dX12_goOn_123 : decode cX12_goOn 123 = .ok (.istore 4, 2) := by decide +kernel
theorem dX12_goOn_125 : decode cX12_goOn 125 = .ok (.iconst 0, 1) := by decide +kernel
theorem dX12_goOn_126 : decode cX12_goOn 126 = .ok (.istore 5, 2) := by decide +kernel
theorem dX12_goOn_128 : decode cX12_goOn 128 = .ok (.iload 5, 2) := by decide +kernel
theorem dX12_goOn_130 : decode cX12_goOn 130 = .ok (.aload_n 0, 1) := by decide +kernel
theorem dX12_goOn_131 : decode cX12_goOn 131 = .ok (.getfield 19, 3) := by decide +kernel
theorem dX12_goOn_134 : decode cX12_goOn 134 = .ok (.iconst 2, 1) := by decide +kernel
theorem dX12_goOn_135 : decode cX12_goOn 135 = .ok (.iaload, 1) := by decide +kernel
theorem dX12_goOn_136 : decode cX12_goOn 136 = .ok (.if_icmp .ge 99, 3) := by decide +kernel
theorem dX12_goOn_139 : decode cX12_goOn 139 = .ok (.iload 4, 2) := by decide +kernel
theorem dX12_goOn_141 : decode cX12_goOn 141 = .ok (.ldc 89, 2) := by decide +kernel
theorem dX12_goOn_143 : decode cX12_goOn 143 = .ok (.if_icmp .eq 92, 3) := by decide +kernel
theorem dX12_goOn_146 : decode cX12_goOn 146 = .ok (.aload_n 0, 1) := by decide +kernel
theorem dX12_goOn_147 : decode cX12_goOn 147 = .ok (.getfield 28, 3) := by decide +kernel
theorem dX12_goOn_150 : decode cX12_goOn 150 = .ok (.iload 5, 2) := by decide +kernel
theorem dX12_goOn_152 : decode cX12_goOn 152 = .ok (.iaload, 1) := by decide +kernel
theorem dX12_goOn_153 : decode cX12_goOn 153 = .ok (.iload 4, 2) := by decide +kernel
theorem dX12_goOn_155 : decode cX12_goOn 155 = .ok (.if_icmp .ne 74, 3) := by decide +kernel
theorem dX12_goOn_158 : decode cX12_goOn 158 = .ok (.aload_n 0, 1) := by decide +kernel
theorem dX12_goOn_159 : decode cX12_goOn 159 = .ok (.getfield 31, 3) := by decide +kernel
theorem dX12_goOn_162 : decode cX12_goOn 162 = .ok (.iload 5, 2) := by decide +kernel
theorem dX12_goOn_164 : decode cX12_goOn 164 = .ok (.aload_n 0, 1) := by decide +kernel
theorem dX12_goOn_165 : decode cX12_goOn 165 = .ok (.getfield 31, 3) := by decide +kernel
theorem dX12_goOn_168 : decode cX12_goOn 168 = .ok (.iload 5, 2) := by decide +kernel
theorem dX12_goOn_170 : decode cX12_goOn 170 = .ok (.iaload, 1) := by decide +kernel
theorem dX12_goOn_171 : decode cX12_goOn 171 = .ok (.iconst 3, 1) := by decide +kernel
theorem dX12_goOn_172 : decode cX12_goOn 172 = .ok (.iadd, 1) := by decide +kernel
theorem dX12_goOn_173 : decode cX12_goOn 173 = .ok (.bipush 99, 2) := by decide +kernel
theorem dX12_goOn_175 : decode cX12_goOn 175 = .ok (.if_icmp .le 8, 3) := by decide +kernel
theorem dX12_goOn_178 : decode cX12_goOn 178 = .ok (.bipush 99, 2) := by decide +kernel
theorem dX12_goOn_180 : decode cX12_goOn 180 = .ok (.goto 12, 3) := by decide +kernel
theorem dX12_goOn_183 : decode cX12_goOn 183 = .ok (.aload_n 0, 1) := by decide +kernel
theorem dX12_goOn_184 : decode cX12_goOn 184 = .ok (.getfield 31, 3) := by decide +kernel
theorem dX12_goOn_187 : decode cX12_goOn 187 = .ok (.iload 5, 2) := by decide +kernel
theorem dX12_goOn_189 : decode cX12_goOn 189 = .ok (.iaload, 1) := by decide +kernel
theorem dX12_goOn_190 : decode cX12_goOn 190 = .ok (.iconst 3, 1) := by decide +kernel
theorem dX12_goOn_191 : decode cX12_goOn 191 = .ok (.iadd, 1) := by decide +kernel
theorem dX12_goOn_192 : decode cX12_goOn 192 = .ok (.iastore, 1) := by decide +kernel
theorem dX12_goOn_193 : decode cX12_goOn 193 = .ok (.aload_n 0, 1) := by decide +kernel
theorem dX12_goOn_194 : decode cX12_goOn 194 = .ok (.dup, 1) := by decide +kernel
theorem dX12_goOn_195 : decode cX12_goOn 195 = .ok (.getfield 199, 3) := by decide +kernel
theorem dX12_goOn_198 : decode cX12_goOn 198 = .ok (.aload_n 0, 1) := by decide +kernel
theorem dX12_goOn_199 : decode cX12_goOn 199 = .ok (.iload_n 3, 1) := by decide +kernel
theorem dX12_goOn_200 : decode cX12_goOn 200 = .ok (.iconst 0, 1) := by decide +kernel
theorem dX12_goOn_201 : decode cX12_goOn 201 = .ok (.invokevirtual 202, 3) := by decide +kernel
theorem dX12_goOn_204 : decode cX12_goOn 204 = .ok (.iconst 1, 1) := by decide +kernel
theorem dX12_goOn_205 : decode cX12_goOn 205 = .ok (.if_icmp .ne 19, 3) := by decide +kernel
theorem dX12_goOn_208 : decode cX12_goOn 208 = .ok (.aload_n 0, 1) := by decide +kernel
theorem dX12_goOn_209 : decode cX12_goOn 209 = .ok (.iload 5, 2) := by decide +kernel
theorem dX12_goOn_211 : decode cX12_goOn 211 = .ok (.invokevirtual 240, 3) := by decide +kernel
theorem dX12_goOn_214 : decode cX12_goOn 214 = .ok (.ifCond .ne 10, 3) := by decide +kernel
theorem dX12_goOn_217 : decode cX12_goOn 217 = .ok (.iconst 1, 1) := by decide +kernel
theorem dX12_goOn_218 : decode cX12_goOn 218 = .ok (.iload 5, 2) := by decide +kernel
theorem dX12_goOn_220 : decode cX12_goOn 220 = .ok (.ishl, 1) := by decide +kernel
theorem dX12_goOn_221 : decode cX12_goOn 221 = .ok (.goto 4, 3) := by decide +kernel
theorem dX12_goOn_224 : decode cX12_goOn 224 = .ok (.iconst 0, 1) := by decide +kernel
theorem dX12_goOn_225 : decode cX12_goOn 225 = .ok (.ior, 1) := by decide +kernel
theorem dX12_goOn_226 : decode cX12_goOn 226 = .ok (.putfield 199, 3) := by decide +kernel
theorem dX12_goOn_229 : decode cX12_goOn 229 = .ok (.iinc 5 1, 3) := by decide +kernel
theorem dX12_goOn_232 : decode cX12_goOn 232 = .ok (.goto (-104), 3) := by decide +kernel
theorem dX12_goOn_235 : decode cX12_goOn 235 = .ok (.iinc 3 1, 3) := by decide +kernel
theorem dX12_goOn_238 : decode cX12_goOn 238 = .ok (.goto (-149), 3) := by decide +kernel
theorem dX12_goOn_241 : decode cX12_goOn 241 = .ok (.return_, 1) := by decide +kernel
theorem dX12_quarters_0 : decode cX12_quarters 0 = .ok (.aload_n 0, 1) := by decide +kernel
theorem dX12_quarters_1 : decode cX12_quarters 1 = .ok (.iconst 0, 1) := by decide +kernel
theorem dX12_quarters_2 : decode cX12_quarters 2 = .ok (.putfield 53, 3) := by decide +kernel
theorem dX12_quarters_5 : decode cX12_quarters 5 = .ok (.aload_n 0, 1) := by decide +kernel
theorem dX12_quarters_6 : decode cX12_quarters 6 = .ok (.getfield 192, 3) := by decide +kernel
theorem dX12_quarters_9 : decode cX12_quarters 9 = .ok (.ifCond .ne 6, 3) := by decide +kernel
theorem dX12_quarters_12 : decode cX12_quarters 12 = .ok (.ldc 208, 2) := by decide +kernel
theorem dX12_quarters_14 : decode cX12_quarters 14 = .ok (.ireturn, 1) := by decide +kernel
theorem dX12_quarters_15 : decode cX12_quarters 15 = .ok (.iload_n 1, 1) := by decide +kernel
theorem dX12_quarters_16 : decode cX12_quarters 16 = .ok (.i2l, 1) := by decide +kernel
theorem dX12_quarters_17 : decode cX12_quarters 17 = .ok (.lconst 1, 1) := by decide +kernel
theorem dX12_quarters_18 : decode cX12_quarters 18 = .ok (.ldc2_w 243, 3) := by decide +kernel
theorem dX12_quarters_21 : decode cX12_quarters 21 = .ok (.invokestatic 63, 3) := by decide +kernel
theorem dX12_quarters_24 : decode cX12_quarters 24 = .ok (.ifCond .ne 6, 3) := by decide +kernel
theorem dX12_quarters_27 : decode cX12_quarters 27 = .ok (.ldc 73, 2) := by decide +kernel
theorem dX12_quarters_29 : decode cX12_quarters 29 = .ok (.ireturn, 1) := by decide +kernel
theorem dX12_quarters_30 : decode cX12_quarters 30 = .ok (.aload_n 0, 1) := by decide +kernel
theorem dX12_quarters_31 : decode cX12_quarters 31 = .ok (.invokevirtual 221, 3) := by decide +kernel
theorem dX12_quarters_34 : decode cX12_quarters 34 = .ok (.iconst 0, 1) := by decide +kernel
theorem dX12_quarters_35 : decode cX12_quarters 35 = .ok (.istore_n 2, 1) := by decide +kernel
theorem dX12_quarters_36 : decode cX12_quarters 36 = .ok (.iload_n 2, 1) := by decide +kernel
theorem dX12_quarters_37 : decode cX12_quarters 37 = .ok (.iload_n 1, 1) := by decide +kernel
theorem dX12_quarters_38 : decode cX12_quarters 38 = .ok (.if_icmp .ge 21, 3) := by decide +kernel
theorem dX12_quarters_41 : decode cX12_quarters 41 = .ok (.aload_n 0, 1) := by decide +kernel
theorem dX12_quarters_42 : decode cX12_quarters 42 = .ok (.aload_n 0, 1) := by decide +kernel
theorem dX12_quarters_43 : decode cX12_quarters 43 = .ok (.getfield 19, 3) := by decide +kernel
theorem dX12_quarters_46 : decode cX12_quarters 46 = .ok (.iconst 3, 1) := by decide +kernel
theorem dX12_quarters_47 : decode cX12_quarters 47 = .ok (.iaload, 1) := by decide +kernel
theorem dX12_quarters_48 : decode cX12_quarters 48 = .ok (.iload_n 2, 1) := by decide +kernel
theorem dX12_quarters_49 : decode cX12_quarters 49 = .ok (.iadd, 1) := by decide +kernel
theorem dX12_quarters_50 : decode cX12_quarters 50 = .ok (.invokevirtual 245, 3) := by decide +kernel
theorem dX12_quarters_53 : decode cX12_quarters 53 = .ok (.iinc 2 1, 3) := by decide +kernel
theorem dX12_quarters_56 : decode cX12_quarters 56 = .ok (.goto (-20), 3) := by decide +kernel
theorem dX12_quarters_59 : decode cX12_quarters 59 = .ok (.aload_n 0, 1) := by decide +kernel
theorem dX12_quarters_60 : decode cX12_quarters 60 = .ok (.invokevirtual 227, 3) := by decide +kernel
theorem dX12_quarters_63 : decode cX12_quarters 63 = .ok (.aload_n 0, 1) := by decide +kernel
theorem dX12_quarters_64 : decode cX12_quarters 64 = .ok (.getfield 19, 3) := by decide +kernel
theorem dX12_quarters_67 : decode cX12_quarters 67 = .ok (.iconst 3, 1) := by decide +kernel
theorem dX12_quarters_68 : decode cX12_quarters 68 = .ok (.dup2, 1) := by decide +kernel
theorem dX12_quarters_69 : decode cX12_quarters 69 = .ok (.iaload, 1) := by decide +kernel
theorem dX12_quarters_70 : decode cX12_quarters 70 = .ok (.iload_n 1, 1) := by decide +kernel
theorem dX12_quarters_71 : decode cX12_quarters 71 = .ok (.iadd, 1) := by decide +kernel
theorem dX12_quarters_72 : decode cX12_quarters 72 = .ok (.iastore, 1) := by decide +kernel
theorem dX12_quarters_73 : decode cX12_quarters 73 = .ok (.aload_n 0, 1) := by decide +kernel
theorem dX12_quarters_74 : decode cX12_quarters 74 = .ok (.getfield 19, 3) := by decide +kernel
theorem dX12_quarters_77 : decode cX12_quarters 77 = .ok (.iconst 3, 1) := by decide +kernel
theorem dX12_quarters_78 : decode cX12_quarters 78 = .ok (.iaload, 1) := by decide +kernel
theorem dX12_quarters_79 : decode cX12_quarters 79 = .ok (.ireturn, 1) := by decide +kernel
theorem dX12_lay_0 : decode cX12_lay 0 = .ok (.aload_n 0, 1) := by decide +kernel
theorem dX12_lay_1 : decode cX12_lay 1 = .ok (.iconst 0, 1) := by decide +kernel
theorem dX12_lay_2 : decode cX12_lay 2 = .ok (.putfield 53, 3) := by decide +kernel
theorem dX12_lay_5 : decode cX12_lay 5 = .ok (.aload_n 0, 1) := by decide +kernel
theorem dX12_lay_6 : decode cX12_lay 6 = .ok (.getfield 192, 3) := by decide +kernel
theorem dX12_lay_9 : decode cX12_lay 9 = .ok (.ifCond .ne 6, 3) := by decide +kernel
theorem dX12_lay_12 : decode cX12_lay 12 = .ok (.ldc 208, 2) := by decide +kernel
theorem dX12_lay_14 : decode cX12_lay 14 = .ok (.ireturn, 1) := by decide +kernel
theorem dX12_lay_15 : decode cX12_lay 15 = .ok (.iload_n 1, 1) := by decide +kernel
theorem dX12_lay_16 : decode cX12_lay 16 = .ok (.invokestatic 67, 3) := by decide +kernel
theorem dX12_lay_19 : decode cX12_lay 19 = .ok (.ifCond .ne 6, 3) := by decide +kernel
theorem dX12_lay_22 : decode cX12_lay 22 = .ok (.ldc 73, 2) := by decide +kernel
theorem dX12_lay_24 : decode cX12_lay 24 = .ok (.ireturn, 1) := by decide +kernel
theorem dX12_lay_25 : decode cX12_lay 25 = .ok (.aload_n 0, 1) := by decide +kernel
theorem dX12_lay_26 : decode cX12_lay 26 = .ok (.getfield 7, 3) := by decide +kernel
theorem dX12_lay_29 : decode cX12_lay 29 = .ok (.iload_n 1, 1) := by decide +kernel
theorem dX12_lay_30 : decode cX12_lay 30 = .ok (.iaload, 1) := by decide +kernel
theorem dX12_lay_31 : decode cX12_lay 31 = .ok (.ifCond .ge 9, 3) := by decide +kernel
theorem dX12_lay_34 : decode cX12_lay 34 = .ok (.aload_n 0, 1) := by decide +kernel
theorem dX12_lay_35 : decode cX12_lay 35 = .ok (.iconst 1, 1) := by decide +kernel
theorem dX12_lay_36 : decode cX12_lay 36 = .ok (.invokevirtual 74, 3) := by decide +kernel
theorem dX12_lay_39 : decode cX12_lay 39 = .ok (.ireturn, 1) := by decide +kernel
theorem dX12_lay_40 : decode cX12_lay 40 = .ok (.iload_n 2, 1) := by decide +kernel
theorem dX12_lay_41 : decode cX12_lay 41 = .ok (.ifCond .lt 24, 3) := by decide +kernel
theorem dX12_lay_44 : decode cX12_lay 44 = .ok (.iload_n 2, 1) := by decide +kernel
theorem dX12_lay_45 : decode cX12_lay 45 = .ok (.i2l, 1) := by decide +kernel
theorem dX12_lay_46 : decode cX12_lay 46 = .ok (.aload_n 0, 1) := by decide +kernel
theorem dX12_lay_47 : decode cX12_lay 47 = .ok (.getfield 19, 3) := by decide +kernel
theorem dX12_lay_50 : decode cX12_lay 50 = .ok (.iconst 2, 1) := by decide +kernel
theorem dX12_lay_51 : decode cX12_lay 51 = .ok (.iaload, 1) := by decide +kernel
theorem dX12_lay_52 : decode cX12_lay 52 = .ok (.i2l, 1) := by decide +kernel
theorem dX12_lay_53 : decode cX12_lay 53 = .ok (.ladd, 1) := by decide +kernel
theorem dX12_lay_54 : decode cX12_lay 54 = .ok (.aload_n 0, 1) := by decide +kernel
theorem dX12_lay_55 : decode cX12_lay 55 = .ok (.getfield 13, 3) := by decide +kernel
theorem dX12_lay_58 : decode cX12_lay 58 = .ok (.iload_n 1, 1) := by decide +kernel
theorem dX12_lay_59 : decode cX12_lay 59 = .ok (.iaload, 1) := by decide +kernel
theorem dX12_lay_60 : decode cX12_lay 60 = .ok (.i2l, 1) := by decide +kernel
theorem dX12_lay_61 : decode cX12_lay 61 = .ok (.lcmp, 1) := by decide +kernel
theorem dX12_lay_62 : decode cX12_lay 62 = .ok (.ifCond .le 9, 3) := by decide +kernel
theorem dX12_lay_65 : decode cX12_lay 65 = .ok (.aload_n 0, 1) := by decide +kernel
end
section
theorem dX12_lay_66 : decode cX12_lay 66 = .ok (.iconst 2, 1) := by decide +kernel
theorem dX12_lay_67 : decode cX12_lay 67 = .ok (.invokevirtual 74, 3) := by decide +kernel
theorem dX12_lay_70 : decode cX12_lay 70 = .ok (.ireturn, 1) := by decide +kernel
theorem dX12_lay_71 : decode cX12_lay 71 = .ok (.iconst 0, 1) := by decide +kernel
theorem dX12_lay_72 : decode cX12_lay 72 = .ok (.istore_n 3, 1) := by decide +kernel
theorem dX12_lay_73 : decode cX12_lay 73 = .ok (.iload_n 3, 1) := by decide +kernel
theorem dX12_lay_74 : decode cX12_lay 74 = .ok (.aload_n 0, 1) := by decide +kernel
theorem dX12_lay_75 : decode cX12_lay 75 = .ok (.getfield 19, 3) := by decide +kernel
theorem dX12_lay_78 : decode cX12_lay 78 = .ok (.iconst 2, 1) := by decide +kernel
theorem dX12_lay_79 : decode cX12_lay 79 = .ok (.iaload, 1) := by decide +kernel
theorem dX12_lay_80 : decode cX12_lay 80 = .ok (.if_icmp .ge 44, 3) := by decide +kernel
theorem dX12_lay_83 : decode cX12_lay 83 = .ok (.aload_n 0, 1) := by decide +kernel
theorem dX12_lay_84 : decode cX12_lay 84 = .ok (.getfield 16, 3) := by decide +kernel
theorem dX12_lay_87 : decode cX12_lay 87 = .ok (.bipush 40, 2) := by decide +kernel
theorem dX12_lay_89 : decode cX12_lay 89 = .ok (.iload_n 1, 1) := by decide +kernel
theorem dX12_lay_90 : decode cX12_lay 90 = .ok (.imul, 1) := by decide +kernel
theorem dX12_lay_91 : decode cX12_lay 91 = .ok (.iload_n 2, 1) := by decide +kernel
theorem dX12_lay_92 : decode cX12_lay 92 = .ok (.iadd, 1) := by decide +kernel
theorem dX12_lay_93 : decode cX12_lay 93 = .ok (.iload_n 3, 1) := by decide +kernel
theorem dX12_lay_94 : decode cX12_lay 94 = .ok (.iadd, 1) := by decide +kernel
theorem dX12_lay_95 : decode cX12_lay 95 = .ok (.iaload, 1) := by decide +kernel
theorem dX12_lay_96 : decode cX12_lay 96 = .ok (.i2l, 1) := by decide +kernel
theorem dX12_lay_97 : decode cX12_lay 97 = .ok (.ldc2_w 248, 3) := by decide +kernel
theorem dX12_lay_100 : decode cX12_lay 100 = .ok (.aload_n 0, 1) := by decide +kernel
theorem dX12_lay_101 : decode cX12_lay 101 = .ok (.getfield 19, 3) := by decide +kernel
theorem dX12_lay_104 : decode cX12_lay 104 = .ok (.iconst 0, 1) := by decide +kernel
theorem dX12_lay_105 : decode cX12_lay 105 = .ok (.iaload, 1) := by decide +kernel
theorem dX12_lay_106 : decode cX12_lay 106 = .ok (.iconst 1, 1) := by decide +kernel
theorem dX12_lay_107 : decode cX12_lay 107 = .ok (.isub, 1) := by decide +kernel
theorem dX12_lay_108 : decode cX12_lay 108 = .ok (.i2l, 1) := by decide +kernel
theorem dX12_lay_109 : decode cX12_lay 109 = .ok (.invokestatic 63, 3) := by decide +kernel
theorem dX12_lay_112 : decode cX12_lay 112 = .ok (.ifCond .ne 6, 3) := by decide +kernel
theorem dX12_lay_115 : decode cX12_lay 115 = .ok (.ldc 73, 2) := by decide +kernel
theorem dX12_lay_117 : decode cX12_lay 117 = .ok (.ireturn, 1) := by decide +kernel
theorem dX12_lay_118 : decode cX12_lay 118 = .ok (.iinc 3 1, 3) := by decide +kernel
theorem dX12_lay_121 : decode cX12_lay 121 = .ok (.goto (-48), 3) := by decide +kernel
theorem dX12_lay_124 : decode cX12_lay 124 = .ok (.aload_n 0, 1) := by decide +kernel
theorem dX12_lay_125 : decode cX12_lay 125 = .ok (.invokevirtual 221, 3) := by decide +kernel
theorem dX12_lay_128 : decode cX12_lay 128 = .ok (.iconst 0, 1) := by decide +kernel
theorem dX12_lay_129 : decode cX12_lay 129 = .ok (.istore_n 3, 1) := by decide +kernel
theorem dX12_lay_130 : decode cX12_lay 130 = .ok (.iload_n 3, 1) := by decide +kernel
theorem dX12_lay_131 : decode cX12_lay 131 = .ok (.aload_n 0, 1) := by decide +kernel
theorem dX12_lay_132 : decode cX12_lay 132 = .ok (.getfield 19, 3) := by decide +kernel
theorem dX12_lay_135 : decode cX12_lay 135 = .ok (.iconst 2, 1) := by decide +kernel
theorem dX12_lay_136 : decode cX12_lay 136 = .ok (.iaload, 1) := by decide +kernel
theorem dX12_lay_137 : decode cX12_lay 137 = .ok (.if_icmp .ge 17, 3) := by decide +kernel
theorem dX12_lay_140 : decode cX12_lay 140 = .ok (.aload_n 0, 1) := by decide +kernel
theorem dX12_lay_141 : decode cX12_lay 141 = .ok (.getfield 28, 3) := by decide +kernel
theorem dX12_lay_144 : decode cX12_lay 144 = .ok (.iload_n 3, 1) := by decide +kernel
theorem dX12_lay_145 : decode cX12_lay 145 = .ok (.ldc 89, 2) := by decide +kernel
theorem dX12_lay_147 : decode cX12_lay 147 = .ok (.iastore, 1) := by decide +kernel
theorem dX12_lay_148 : decode cX12_lay 148 = .ok (.iinc 3 1, 3) := by decide +kernel
theorem dX12_lay_151 : decode cX12_lay 151 = .ok (.goto (-21), 3) := by decide +kernel
theorem dX12_lay_154 : decode cX12_lay 154 = .ok (.iconst 0, 1) := by decide +kernel
theorem dX12_lay_155 : decode cX12_lay 155 = .ok (.istore_n 3, 1) := by decide +kernel
theorem dX12_lay_156 : decode cX12_lay 156 = .ok (.iconst 0, 1) := by decide +kernel
theorem dX12_lay_157 : decode cX12_lay 157 = .ok (.istore 4, 2) := by decide +kernel
theorem dX12_lay_159 : decode cX12_lay 159 = .ok (.iload 4, 2) := by decide +kernel
theorem dX12_lay_161 : decode cX12_lay 161 = .ok (.aload_n 0, 1) := by decide +kernel
theorem dX12_lay_162 : decode cX12_lay 162 = .ok (.getfield 19, 3) := by decide +kernel
theorem dX12_lay_165 : decode cX12_lay 165 = .ok (.iconst 2, 1) := by decide +kernel
theorem dX12_lay_166 : decode cX12_lay 166 = .ok (.iaload, 1) := by decide +kernel
theorem dX12_lay_167 : decode cX12_lay 167 = .ok (.if_icmp .ge 65, 3) := by decide +kernel
theorem dX12_lay_170 : decode cX12_lay 170 = .ok (.aload_n 0, 1) := by decide +kernel
theorem dX12_lay_171 : decode cX12_lay 171 = .ok (.getfield 16, 3) := by decide +kernel
theorem dX12_lay_174 : decode cX12_lay 174 = .ok (.bipush 40, 2) := by decide +kernel
theorem dX12_lay_176 : decode cX12_lay 176 = .ok (.iload_n 1, 1) := by decide +kernel
theorem dX12_lay_177 : decode cX12_lay 177 = .ok (.imul, 1) := by decide +kernel
theorem dX12_lay_178 : decode cX12_lay 178 = .ok (.iload_n 2, 1) := by decide +kernel
theorem dX12_lay_179 : decode cX12_lay 179 = .ok (.iadd, 1) := by decide +kernel
theorem dX12_lay_180 : decode cX12_lay 180 = .ok (.iload 4, 2) := by decide +kernel
theorem dX12_lay_182 : decode cX12_lay 182 = .ok (.iadd, 1) := by decide +kernel
theorem dX12_lay_183 : decode cX12_lay 183 = .ok (.iaload, 1) := by decide +kernel
theorem dX12_lay_184 : decode cX12_lay 184 = .ok (.istore 5, 2) := by decide +kernel
theorem dX12_lay_186 : decode cX12_lay 186 = .ok (.iload 5, 2) := by decide +kernel
theorem dX12_lay_188 : decode cX12_lay 188 = .ok (.ifCond .ge 7, 3) := by decide +kernel
theorem dX12_lay_191 : decode cX12_lay 191 = .ok (.iconst 0, 1) := by decide +kernel
theorem dX12_lay_192 : decode cX12_lay 192 = .ok (.goto 11, 3) := by decide +kernel
theorem dX12_lay_195 : decode cX12_lay 195 = .ok (.aload_n 0, 1) := by decide +kernel
theorem dX12_lay_196 : decode cX12_lay 196 = .ok (.iload 4, 2) := by decide +kernel
theorem dX12_lay_198 : decode cX12_lay 198 = .ok (.iload 5, 2) := by decide +kernel
theorem dX12_lay_200 : decode cX12_lay 200 = .ok (.invokevirtual 224, 3) := by decide +kernel
theorem dX12_lay_203 : decode cX12_lay 203 = .ok (.istore 6, 2) := by decide +kernel
theorem dX12_lay_205 : decode cX12_lay 205 = .ok (.iload 6, 2) := by decide +kernel
theorem dX12_lay_207 : decode cX12_lay 207 = .ok (.ifCond .ge 6, 3) := by decide +kernel
theorem dX12_lay_210 : decode cX12_lay 210 = .ok (.iload 6, 2) := by decide +kernel
theorem dX12_lay_212 : decode cX12_lay 212 = .ok (.ireturn, 1) := by decide +kernel
theorem dX12_lay_213 : decode cX12_lay 213 = .ok (.iload_n 3, 1) := by decide +kernel
theorem dX12_lay_214 : decode cX12_lay 214 = .ok (.iload 5, 2) := by decide +kernel
theorem dX12_lay_216 : decode cX12_lay 216 = .ok (.ifCond .ge 7, 3) := by decide +kernel
theorem dX12_lay_219 : decode cX12_lay 219 = .ok (.iconst 0, 1) := by decide +kernel
theorem dX12_lay_220 : decode cX12_lay 220 = .ok (.goto 4, 3) := by decide +kernel
theorem dX12_lay_223 : decode cX12_lay 223 = .ok (.iconst 1, 1) := by decide +kernel
theorem dX12_lay_224 : decode cX12_lay 224 = .ok (.iadd, 1) := by decide +kernel
theorem dX12_lay_225 : decode cX12_lay 225 = .ok (.istore_n 3, 1) := by decide +kernel
theorem dX12_lay_226 : decode cX12_lay 226 = .ok (.iinc 4 1, 3) := by decide +kernel
theorem dX12_lay_229 : decode cX12_lay 229 = .ok (.goto (-70), 3) := by decide +kernel
theorem dX12_lay_232 : decode cX12_lay 232 = .ok (.aload_n 0, 1) := by decide +kernel
theorem dX12_lay_233 : decode cX12_lay 233 = .ok (.iconst 0, 1) := by decide +kernel
theorem dX12_lay_234 : decode cX12_lay 234 = .ok (.putfield 57, 3) := by decide +kernel
theorem dX12_lay_237 : decode cX12_lay 237 = .ok (.aload_n 0, 1) := by decide +kernel
theorem dX12_lay_238 : decode cX12_lay 238 = .ok (.invokevirtual 227, 3) := by decide +kernel
theorem dX12_lay_241 : decode cX12_lay 241 = .ok (.iload_n 3, 1) := by decide +kernel
theorem dX12_lay_242 : decode cX12_lay 242 = .ok (.ireturn, 1) := by decide +kernel
theorem dX12_piece_0 : decode cX12_piece 0 = .ok (.aload_n 0, 1) := by decide +kernel
theorem dX12_piece_1 : decode cX12_piece 1 = .ok (.iconst 0, 1) := by decide +kernel
theorem dX12_piece_2 : decode cX12_piece 2 = .ok (.putfield 53, 3) := by decide +kernel
theorem dX12_piece_5 : decode cX12_piece 5 = .ok (.aload_n 0, 1) := by decide +kernel
theorem dX12_piece_6 : decode cX12_piece 6 = .ok (.iload_n 1, 1) := by decide +kernel
theorem dX12_piece_7 : decode cX12_piece 7 = .ok (.invokevirtual 215, 3) := by decide +kernel
theorem dX12_piece_10 : decode cX12_piece 10 = .ok (.ifCond .eq 15, 3) := by decide +kernel
theorem dX12_piece_13 : decode cX12_piece 13 = .ok (.iload_n 2, 1) := by decide +kernel
theorem dX12_piece_14 : decode cX12_piece 14 = .ok (.i2l, 1) := by decide +kernel
theorem dX12_piece_15 : decode cX12_piece 15 = .ok (.lconst 0, 1) := by decide +kernel
theorem dX12_piece_16 : decode cX12_piece 16 = .ok (.ldc2_w 250, 3) := by decide +kernel
theorem dX12_piece_19 : decode cX12_piece 19 = .ok (.invokestatic 63, 3) := by decide +kernel
theorem dX12_piece_22 : decode cX12_piece 22 = .ok (.ifCond .ne 6, 3) := by decide +kernel
theorem dX12_piece_25 : decode cX12_piece 25 = .ok (.ldc 73, 2) := by decide +kernel
theorem dX12_piece_27 : decode cX12_piece 27 = .ok (.ireturn, 1) := by decide +kernel
theorem dX12_piece_28 : decode cX12_piece 28 = .ok (.aload_n 0, 1) := by decide +kernel
theorem dX12_piece_29 : decode cX12_piece 29 = .ok (.iload_n 1, 1) := by decide +kernel
theorem dX12_piece_30 : decode cX12_piece 30 = .ok (.iload_n 2, 1) := by decide +kernel
theorem dX12_piece_31 : decode cX12_piece 31 = .ok (.ifCond .ne 7, 3) := by decide +kernel
theorem dX12_piece_34 : decode cX12_piece 34 = .ok (.iconst 2, 1) := by decide +kernel
theorem dX12_piece_35 : decode cX12_piece 35 = .ok (.goto 31, 3) := by decide +kernel
theorem dX12_piece_38 : decode cX12_piece 38 = .ok (.iload_n 2, 1) := by decide +kernel
theorem dX12_piece_39 : decode cX12_piece 39 = .ok (.iconst 1, 1) := by decide +kernel
theorem dX12_piece_40 : decode cX12_piece 40 = .ok (.if_icmp .ne 7, 3) := by decide +kernel
theorem dX12_piece_43 : decode cX12_piece 43 = .ok (.iconst 4, 1) := by decide +kernel
theorem dX12_piece_44 : decode cX12_piece 44 = .ok (.goto 22, 3) := by decide +kernel
theorem dX12_piece_47 : decode cX12_piece 47 = .ok (.iload_n 2, 1) := by decide +kernel
theorem dX12_piece_48 : decode cX12_piece 48 = .ok (.iconst 2, 1) := by decide +kernel
theorem dX12_piece_49 : decode cX12_piece 49 = .ok (.if_icmp .ne 7, 3) := by decide +kernel
theorem dX12_piece_52 : decode cX12_piece 52 = .ok (.iconst 5, 1) := by decide +kernel
theorem dX12_piece_53 : decode cX12_piece 53 = .ok (.goto 13, 3) := by decide +kernel
theorem dX12_piece_56 : decode cX12_piece 56 = .ok (.iload_n 2, 1) := by decide +kernel
theorem dX12_piece_57 : decode cX12_piece 57 = .ok (.iconst 3, 1) := by decide +kernel
theorem dX12_piece_58 : decode cX12_piece 58 = .ok (.if_icmp .ne 7, 3) := by decide +kernel
theorem dX12_piece_61 : decode cX12_piece 61 = .ok (.iconst 1, 1) := by decide +kernel
theorem dX12_piece_62 : decode cX12_piece 62 = .ok (.goto 4, 3) := by decide +kernel
theorem dX12_piece_65 : decode cX12_piece 65 = .ok (.iconst 3, 1) := by decide +kernel
theorem dX12_piece_66 : decode cX12_piece 66 = .ok (.invokevirtual 202, 3) := by decide +kernel
theorem dX12_piece_69 : decode cX12_piece 69 = .ok (.ireturn, 1) := by decide +kernel
theorem dX12_hangOn_0 : decode cX12_hangOn 0 = .ok (.iconst 0, 1) := by decide +kernel
theorem dX12_hangOn_1 : decode cX12_hangOn 1 = .ok (.istore_n 2, 1) := by decide +kernel
theorem dX12_hangOn_2 : decode cX12_hangOn 2 = .ok (.iconst 0, 1) := by decide +kernel
theorem dX12_hangOn_3 : decode cX12_hangOn 3 = .ok (.istore_n 3, 1) := by decide +kernel
theorem dX12_hangOn_4 : decode cX12_hangOn 4 = .ok (.iload_n 3, 1) := by decide +kernel
theorem dX12_hangOn_5 : decode cX12_hangOn 5 = .ok (.aload_n 0, 1) := by decide +kernel
theorem dX12_hangOn_6 : decode cX12_hangOn 6 = .ok (.getfield 19, 3) := by decide +kernel
theorem dX12_hangOn_9 : decode cX12_hangOn 9 = .ok (.iconst 2, 1) := by decide +kernel
theorem dX12_hangOn_10 : decode cX12_hangOn 10 = .ok (.iaload, 1) := by decide +kernel
theorem dX12_hangOn_11 : decode cX12_hangOn 11 = .ok (.if_icmp .ge 29, 3) := by decide +kernel
theorem dX12_hangOn_14 : decode cX12_hangOn 14 = .ok (.iload_n 2, 1) := by decide +kernel
theorem dX12_hangOn_15 : decode cX12_hangOn 15 = .ok (.aload_n 0, 1) := by decide +kernel
theorem dX12_hangOn_16 : decode cX12_hangOn 16 = .ok (.iload_n 3, 1) := by decide +kernel
theorem dX12_hangOn_17 : decode cX12_hangOn 17 = .ok (.iconst 4, 1) := by decide +kernel
theorem dX12_hangOn_18 : decode cX12_hangOn 18 = .ok (.invokevirtual 202, 3) := by decide +kernel
theorem dX12_hangOn_21 : decode cX12_hangOn 21 = .ok (.iload_n 1, 1) := by decide +kernel
theorem dX12_hangOn_22 : decode cX12_hangOn 22 = .ok (.if_icmp .ne 9, 3) := by decide +kernel
theorem dX12_hangOn_25 : decode cX12_hangOn 25 = .ok (.iconst 1, 1) := by decide +kernel
theorem dX12_hangOn_26 : decode cX12_hangOn 26 = .ok (.iload_n 3, 1) := by decide +kernel
theorem dX12_hangOn_27 : decode cX12_hangOn 27 = .ok (.ishl, 1) := by decide +kernel
theorem dX12_hangOn_28 : decode cX12_hangOn 28 = .ok (.goto 4, 3) := by decide +kernel
theorem dX12_hangOn_31 : decode cX12_hangOn 31 = .ok (.iconst 0, 1) := by decide +kernel
theorem dX12_hangOn_32 : decode cX12_hangOn 32 = .ok (.ior, 1) := by decide +kernel
theorem dX12_hangOn_33 : decode cX12_hangOn 33 = .ok (.istore_n 2, 1) := by decide +kernel
theorem dX12_hangOn_34 : decode cX12_hangOn 34 = .ok (.iinc 3 1, 3) := by decide +kernel
theorem dX12_hangOn_37 : decode cX12_hangOn 37 = .ok (.goto (-33), 3) := by decide +kernel
theorem dX12_hangOn_40 : decode cX12_hangOn 40 = .ok (.iload_n 2, 1) := by decide +kernel
theorem dX12_hangOn_41 : decode cX12_hangOn 41 = .ok (.ireturn, 1) := by decide +kernel
theorem dX12_line_0 : decode cX12_line 0 = .ok (.aload_n 0, 1) := by decide +kernel
theorem dX12_line_1 : decode cX12_line 1 = .ok (.iconst 0, 1) := by decide +kernel
theorem dX12_line_2 : decode cX12_line 2 = .ok (.putfield 53, 3) := by decide +kernel
theorem dX12_line_5 : decode cX12_line 5 = .ok (.aload_n 0, 1) := by decide +kernel
theorem dX12_line_6 : decode cX12_line 6 = .ok (.iload_n 1, 1) := by decide +kernel
theorem dX12_line_7 : decode cX12_line 7 = .ok (.invokevirtual 218, 3) := by decide +kernel
theorem dX12_line_10 : decode cX12_line 10 = .ok (.ifCond .eq 15, 3) := by decide +kernel
theorem dX12_line_13 : decode cX12_line 13 = .ok (.iload_n 2, 1) := by decide +kernel
theorem dX12_line_14 : decode cX12_line 14 = .ok (.i2l, 1) := by decide +kernel
theorem dX12_line_15 : decode cX12_line 15 = .ok (.lconst 0, 1) := by decide +kernel
theorem dX12_line_16 : decode cX12_line 16 = .ok (.ldc2_w 252, 3) := by decide +kernel
theorem dX12_line_19 : decode cX12_line 19 = .ok (.invokestatic 63, 3) := by decide +kernel
theorem dX12_line_22 : decode cX12_line 22 = .ok (.ifCond .ne 6, 3) := by decide +kernel
theorem dX12_line_25 : decode cX12_line 25 = .ok (.ldc 73, 2) := by decide +kernel
theorem dX12_line_27 : decode cX12_line 27 = .ok (.ireturn, 1) := by decide +kernel
theorem dX12_line_28 : decode cX12_line 28 = .ok (.iload_n 2, 1) := by decide +kernel
theorem dX12_line_29 : decode cX12_line 29 = .ok (.iconst 3, 1) := by decide +kernel
theorem dX12_line_30 : decode cX12_line 30 = .ok (.if_icmp .ge 19, 3) := by decide +kernel
theorem dX12_line_33 : decode cX12_line 33 = .ok (.aload_n 0, 1) := by decide +kernel
theorem dX12_line_34 : decode cX12_line 34 = .ok (.getfield 19, 3) := by decide +kernel
theorem dX12_line_37 : decode cX12_line 37 = .ok (.bipush 28, 2) := by decide +kernel
theorem dX12_line_39 : decode cX12_line 39 = .ok (.iconst 3, 1) := by decide +kernel
theorem dX12_line_40 : decode cX12_line 40 = .ok (.iload_n 1, 1) := by decide +kernel
theorem dX12_line_41 : decode cX12_line 41 = .ok (.imul, 1) := by decide +kernel
theorem dX12_line_42 : decode cX12_line 42 = .ok (.iadd, 1) := by decide +kernel
theorem dX12_line_43 : decode cX12_line 43 = .ok (.iload_n 2, 1) := by decide +kernel
theorem dX12_line_44 : decode cX12_line 44 = .ok (.iadd, 1) := by decide +kernel
theorem dX12_line_45 : decode cX12_line 45 = .ok (.iaload, 1) := by decide +kernel
theorem dX12_line_46 : decode cX12_line 46 = .ok (.goto 34, 3) := by decide +kernel
theorem dX12_line_49 : decode cX12_line 49 = .ok (.iload_n 2, 1) := by decide +kernel
theorem dX12_line_50 : decode cX12_line 50 = .ok (.iconst 3, 1) := by decide +kernel
theorem dX12_line_51 : decode cX12_line 51 = .ok (.if_icmp .ne 11, 3) := by decide +kernel
theorem dX12_line_54 : decode cX12_line 54 = .ok (.aload_n 0, 1) := by decide +kernel
theorem dX12_line_55 : decode cX12_line 55 = .ok (.iload_n 1, 1) := by decide +kernel
theorem dX12_line_56 : decode cX12_line 56 = .ok (.invokevirtual 254, 3) := by decide +kernel
theorem dX12_line_59 : decode cX12_line 59 = .ok (.goto 21, 3) := by decide +kernel
theorem dX12_line_62 : decode cX12_line 62 = .ok (.iload_n 2, 1) := by decide +kernel
theorem dX12_line_63 : decode cX12_line 63 = .ok (.iconst 4, 1) := by decide +kernel
theorem dX12_line_64 : decode cX12_line 64 = .ok (.if_icmp .ne 11, 3) := by decide +kernel
theorem dX12_line_67 : decode cX12_line 67 = .ok (.aload_n 0, 1) := by decide +kernel
theorem dX12_line_68 : decode cX12_line 68 = .ok (.iload_n 1, 1) := by decide +kernel
theorem dX12_line_69 : decode cX12_line 69 = .ok (.invokevirtual 205, 3) := by decide +kernel
theorem dX12_line_72 : decode cX12_line 72 = .ok (.goto 8, 3) := by decide +kernel
theorem dX12_line_75 : decode cX12_line 75 = .ok (.aload_n 0, 1) := by decide +kernel
theorem dX12_line_76 : decode cX12_line 76 = .ok (.iload_n 1, 1) := by decide +kernel
theorem dX12_line_77 : decode cX12_line 77 = .ok (.invokevirtual 237, 3) := by decide +kernel
theorem dX12_line_80 : decode cX12_line 80 = .ok (.ireturn, 1) := by decide +kernel
theorem dX12_areDry_0 : decode cX12_areDry 0 = .ok (.iconst 1, 1) := by decide +kernel
theorem dX12_areDry_1 : decode cX12_areDry 1 = .ok (.istore_n 2, 1) := by decide +kernel
theorem dX12_areDry_2 : decode cX12_areDry 2 = .ok (.iconst 0, 1) := by decide +kernel
theorem dX12_areDry_3 : decode cX12_areDry 3 = .ok (.istore_n 3, 1) := by decide +kernel
theorem dX12_areDry_4 : decode cX12_areDry 4 = .ok (.iload_n 3, 1) := by decide +kernel
theorem dX12_areDry_5 : decode cX12_areDry 5 = .ok (.aload_n 0, 1) := by decide +kernel
theorem dX12_areDry_6 : decode cX12_areDry 6 = .ok (.getfield 19, 3) := by decide +kernel
theorem dX12_areDry_9 : decode cX12_areDry 9 = .ok (.iconst 2, 1) := by decide +kernel
theorem dX12_areDry_10 : decode cX12_areDry 10 = .ok (.iaload, 1) := by decide +kernel
theorem dX12_areDry_11 : decode cX12_areDry 11 = .ok (.if_icmp .ge 36, 3) := by decide +kernel
theorem dX12_areDry_14 : decode cX12_areDry 14 = .ok (.iload_n 2, 1) := by decide +kernel
theorem dX12_areDry_15 : decode cX12_areDry 15 = .ok (.ifCond .eq 24, 3) := by decide +kernel
theorem dX12_areDry_18 : decode cX12_areDry 18 = .ok (.iload_n 1, 1) := by decide +kernel
theorem dX12_areDry_19 : decode cX12_areDry 19 = .ok (.iload_n 3, 1) := by decide +kernel
theorem dX12_areDry_20 : decode cX12_areDry 20 = .ok (.ishr, 1) := by decide +kernel
theorem dX12_areDry_21 : decode cX12_areDry 21 = .ok (.iconst 1, 1) := by decide +kernel
theorem dX12_areDry_22 : decode cX12_areDry 22 = .ok (.iand, 1) := by decide +kernel
theorem dX12_areDry_23 : decode cX12_areDry 23 = .ok (.ifCond .eq 12, 3) := by decide +kernel
theorem dX12_areDry_26 : decode cX12_areDry 26 = .ok (.aload_n 0, 1) := by decide +kernel
theorem dX12_areDry_27 : decode cX12_areDry 27 = .ok (.getfield 31, 3) := by decide +kernel
theorem dX12_areDry_30 : decode cX12_areDry 30 = .ok (.iload_n 3, 1) := by decide +kernel
theorem dX12_areDry_31 : decode cX12_areDry 31 = .ok (.iaload, 1) := by decide +kernel
theorem dX12_areDry_32 : decode cX12_areDry 32 = .ok (.ifCond .ne 7, 3) := by decide +kernel
theorem dX12_areDry_35 : decode cX12_areDry 35 = .ok (.iconst 1, 1) := by decide +kernel
theorem dX12_areDry_36 : decode cX12_areDry 36 = .ok (.goto 4, 3) := by decide +kernel
theorem dX12_areDry_39 : decode cX12_areDry 39 = .ok (.iconst 0, 1) := by decide +kernel
theorem dX12_areDry_40 : decode cX12_areDry 40 = .ok (.istore_n 2, 1) := by decide +kernel
theorem dX12_areDry_41 : decode cX12_areDry 41 = .ok (.iinc 3 1, 3) := by decide +kernel
theorem dX12_areDry_44 : decode cX12_areDry 44 = .ok (.goto (-40), 3) := by decide +kernel
theorem dX12_areDry_47 : decode cX12_areDry 47 = .ok (.iload_n 2, 1) := by decide +kernel
theorem dX12_areDry_48 : decode cX12_areDry 48 = .ok (.ireturn, 1) := by decide +kernel
theorem dX12_dry_0 : decode cX12_dry 0 = .ok (.aload_n 0, 1) := by decide +kernel
theorem dX12_dry_1 : decode cX12_dry 1 = .ok (.iconst 0, 1) := by decide +kernel
theorem dX12_dry_2 : decode cX12_dry 2 = .ok (.putfield 53, 3) := by decide +kernel
theorem dX12_dry_5 : decode cX12_dry 5 = .ok (.aload_n 0, 1) := by decide +kernel
theorem dX12_dry_6 : decode cX12_dry 6 = .ok (.getfield 192, 3) := by decide +kernel
theorem dX12_dry_9 : decode cX12_dry 9 = .ok (.ifCond .ne 6, 3) := by decide +kernel
theorem dX12_dry_12 : decode cX12_dry 12 = .ok (.ldc 208, 2) := by decide +kernel
theorem dX12_dry_14 : decode cX12_dry 14 = .ok (.ireturn, 1) := by decide +kernel
theorem dX12_dry_15 : decode cX12_dry 15 = .ok (.iconst 0, 1) := by decide +kernel
theorem dX12_dry_16 : decode cX12_dry 16 = .ok (.istore_n 1, 1) := by decide +kernel
theorem dX12_dry_17 : decode cX12_dry 17 = .ok (.aload_n 0, 1) := by decide +kernel
theorem dX12_dry_18 : decode cX12_dry 18 = .ok (.invokevirtual 221, 3) := by decide +kernel
theorem dX12_dry_21 : decode cX12_dry 21 = .ok (.iconst 0, 1) := by decide +kernel
theorem dX12_dry_22 : decode cX12_dry 22 = .ok (.istore_n 2, 1) := by decide +kernel
theorem dX12_dry_23 : decode cX12_dry 23 = .ok (.iload_n 2, 1) := by decide +kernel
theorem dX12_dry_24 : decode cX12_dry 24 = .ok (.aload_n 0, 1) := by decide +kernel
theorem dX12_dry_25 : decode cX12_dry 25 = .ok (.getfield 19, 3) := by decide +kernel
theorem dX12_dry_28 : decode cX12_dry 28 = .ok (.iconst 2, 1) := by decide +kernel
theorem dX12_dry_29 : decode cX12_dry 29 = .ok (.iaload, 1) := by decide +kernel
theorem dX12_dry_30 : decode cX12_dry 30 = .ok (.if_icmp .ge 30, 3) := by decide +kernel
theorem dX12_dry_33 : decode cX12_dry 33 = .ok (.iload_n 1, 1) := by decide +kernel
theorem dX12_dry_34 : decode cX12_dry 34 = .ok (.aload_n 0, 1) := by decide +kernel
theorem dX12_dry_35 : decode cX12_dry 35 = .ok (.getfield 28, 3) := by decide +kernel
theorem dX12_dry_38 : decode cX12_dry 38 = .ok (.iload_n 2, 1) := by decide +kernel
theorem dX12_dry_39 : decode cX12_dry 39 = .ok (.iaload, 1) := by decide +kernel
theorem dX12_dry_40 : decode cX12_dry 40 = .ok (.ldc 89, 2) := by decide +kernel
theorem dX12_dry_42 : decode cX12_dry 42 = .ok (.if_icmp .eq 9, 3) := by decide +kernel
theorem dX12_dry_45 : decode cX12_dry 45 = .ok (.iconst 1, 1) := by decide +kernel
theorem dX12_dry_46 : decode cX12_dry 46 = .ok (.iload_n 2, 1) := by decide +kernel
theorem dX12_dry_47 : decode cX12_dry 47 = .ok (.ishl, 1) := by decide +kernel
theorem dX12_dry_48 : decode cX12_dry 48 = .ok (.goto 4, 3) := by decide +kernel
theorem dX12_dry_51 : decode cX12_dry 51 = .ok (.iconst 0, 1) := by decide +kernel
theorem dX12_dry_52 : decode cX12_dry 52 = .ok (.ior, 1) := by decide +kernel
theorem dX12_dry_53 : decode cX12_dry 53 = .ok (.istore_n 1, 1) := by decide +kernel
theorem dX12_dry_54 : decode cX12_dry 54 = .ok (.iinc 2 1, 3) := by decide +kernel
theorem dX12_dry_57 : decode cX12_dry 57 = .ok (.goto (-34), 3) := by decide +kernel
theorem dX12_dry_60 : decode cX12_dry 60 = .ok (.iconst 0, 1) := by decide +kernel
theorem dX12_dry_61 : decode cX12_dry 61 = .ok (.istore_n 2, 1) := by decide +kernel
theorem dX12_dry_62 : decode cX12_dry 62 = .ok (.iload_n 2, 1) := by decide +kernel
theorem dX12_dry_63 : decode cX12_dry 63 = .ok (.bipush 96, 2) := by decide +kernel
theorem dX12_dry_65 : decode cX12_dry 65 = .ok (.if_icmp .gt 31, 3) := by decide +kernel
theorem dX12_dry_68 : decode cX12_dry 68 = .ok (.aload_n 0, 1) := by decide +kernel
theorem dX12_dry_69 : decode cX12_dry 69 = .ok (.iload_n 1, 1) := by decide +kernel
theorem dX12_dry_70 : decode cX12_dry 70 = .ok (.invokevirtual 257, 3) := by decide +kernel
theorem dX12_dry_73 : decode cX12_dry 73 = .ok (.ifCond .eq 5, 3) := by decide +kernel
theorem dX12_dry_76 : decode cX12_dry 76 = .ok (.iload_n 2, 1) := by decide +kernel
theorem dX12_dry_77 : decode cX12_dry 77 = .ok (.ireturn, 1) := by decide +kernel
theorem dX12_dry_78 : decode cX12_dry 78 = .ok (.aload_n 0, 1) := by decide +kernel
theorem dX12_dry_79 : decode cX12_dry 79 = .ok (.aload_n 0, 1) := by decide +kernel
theorem dX12_dry_80 : decode cX12_dry 80 = .ok (.getfield 19, 3) := by decide +kernel
theorem dX12_dry_83 : decode cX12_dry 83 = .ok (.iconst 3, 1) := by decide +kernel
theorem dX12_dry_84 : decode cX12_dry 84 = .ok (.iaload, 1) := by decide +kernel
theorem dX12_dry_85 : decode cX12_dry 85 = .ok (.iload_n 2, 1) := by decide +kernel
theorem dX12_dry_86 : decode cX12_dry 86 = .ok (.iadd, 1) := by decide +kernel
theorem dX12_dry_87 : decode cX12_dry 87 = .ok (.invokevirtual 245, 3) := by decide +kernel
theorem dX12_dry_90 : decode cX12_dry 90 = .ok (.iinc 2 1, 3) := by decide +kernel
theorem dX12_dry_93 : decode cX12_dry 93 = .ok (.goto (-31), 3) := by decide +kernel
theorem dX12_dry_96 : decode cX12_dry 96 = .ok (.ldc 89, 2) := by decide +kernel
theorem dX12_dry_98 : decode cX12_dry 98 = .ok (.ireturn, 1) := by decide +kernel
theorem dX12_dryBy_0 : decode cX12_dryBy 0 = .ok (.aload_n 0, 1) := by decide +kernel
theorem dX12_dryBy_1 : decode cX12_dryBy 1 = .ok (.invokevirtual 221, 3) := by decide +kernel
theorem dX12_dryBy_4 : decode cX12_dryBy 4 = .ok (.iload_n 2, 1) := by decide +kernel
theorem dX12_dryBy_5 : decode cX12_dryBy 5 = .ok (.istore_n 3, 1) := by decide +kernel
theorem dX12_dryBy_6 : decode cX12_dryBy 6 = .ok (.iconst 1, 1) := by decide +kernel
theorem dX12_dryBy_7 : decode cX12_dryBy 7 = .ok (.istore 4, 2) := by decide +kernel
theorem dX12_dryBy_9 : decode cX12_dryBy 9 = .ok (.iconst 1, 1) := by decide +kernel
theorem dX12_dryBy_10 : decode cX12_dryBy 10 = .ok (.istore 5, 2) := by decide +kernel
theorem dX12_dryBy_12 : decode cX12_dryBy 12 = .ok (.iload 5, 2) := by decide +kernel
theorem dX12_dryBy_14 : decode cX12_dryBy 14 = .ok (.iload_n 1, 1) := by decide +kernel
theorem dX12_dryBy_15 : decode cX12_dryBy 15 = .ok (.if_icmp .ge 20, 3) := by decide +kernel
theorem dX12_dryBy_18 : decode cX12_dryBy 18 = .ok (.iload 4, 2) := by decide +kernel
theorem dX12_dryBy_20 : decode cX12_dryBy 20 = .ok (.aload_n 0, 1) := by decide +kernel
theorem dX12_dryBy_21 : decode cX12_dryBy 21 = .ok (.getfield 19, 3) := by decide +kernel
theorem dX12_dryBy_24 : decode cX12_dryBy 24 = .ok (.iconst 0, 1) := by decide +kernel
theorem dX12_dryBy_25 : decode cX12_dryBy 25 = .ok (.iaload, 1) := by decide +kernel
theorem dX12_dryBy_26 : decode cX12_dryBy 26 = .ok (.imul, 1) := by decide +kernel
theorem dX12_dryBy_27 : decode cX12_dryBy 27 = .ok (.istore 4, 2) := by decide +kernel
theorem dX12_dryBy_29 : decode cX12_dryBy 29 = .ok (.iinc 5 1, 3) := by decide +kernel
theorem dX12_dryBy_32 : decode cX12_dryBy 32 = .ok (.goto (-20), 3) := by decide +kernel
theorem dX12_dryBy_35 : decode cX12_dryBy 35 = .ok (.iconst 0, 1) := by decide +kernel
theorem dX12_dryBy_36 : decode cX12_dryBy 36 = .ok (.istore 5, 2) := by decide +kernel
theorem dX12_dryBy_38 : decode cX12_dryBy 38 = .ok (.iload 5, 2) := by decide +kernel
theorem dX12_dryBy_40 : decode cX12_dryBy 40 = .ok (.iload_n 1, 1) := by decide +kernel
theorem dX12_dryBy_41 : decode cX12_dryBy 41 = .ok (.if_icmp .ge 41, 3) := by decide +kernel
theorem dX12_dryBy_44 : decode cX12_dryBy 44 = .ok (.aload_n 0, 1) := by decide +kernel
theorem dX12_dryBy_45 : decode cX12_dryBy 45 = .ok (.iload 5, 2) := by decide +kernel
theorem dX12_dryBy_47 : decode cX12_dryBy 47 = .ok (.iload_n 3, 1) := by decide +kernel
theorem dX12_dryBy_48 : decode cX12_dryBy 48 = .ok (.iload 4, 2) := by decide +kernel
theorem dX12_dryBy_50 : decode cX12_dryBy 50 = .ok (.idiv, 1) := by decide +kernel
theorem dX12_dryBy_51 : decode cX12_dryBy 51 = .ok (.invokevirtual 224, 3) := by decide +kernel
theorem dX12_dryBy_54 : decode cX12_dryBy 54 = .ok (.ifCond .ge 6, 3) := by decide +kernel
theorem dX12_dryBy_57 : decode cX12_dryBy 57 = .ok (.ldc 89, 2) := by decide +kernel
theorem dX12_dryBy_59 : decode cX12_dryBy 59 = .ok (.ireturn, 1) := by decide +kernel
theorem dX12_dryBy_60 : decode cX12_dryBy 60 = .ok (.iload_n 3, 1) := by decide +kernel
theorem dX12_dryBy_61 : decode cX12_dryBy 61 = .ok (.iload 4, 2) := by decide +kernel
theorem dX12_dryBy_63 : decode cX12_dryBy 63 = .ok (.irem, 1) := by decide +kernel
theorem dX12_dryBy_64 : decode cX12_dryBy 64 = .ok (.istore_n 3, 1) := by decide +kernel
theorem dX12_dryBy_65 : decode cX12_dryBy 65 = .ok (.iload 4, 2) := by decide +kernel
theorem dX12_dryBy_67 : decode cX12_dryBy 67 = .ok (.aload_n 0, 1) := by decide +kernel
theorem dX12_dryBy_68 : decode cX12_dryBy 68 = .ok (.getfield 19, 3) := by decide +kernel
theorem dX12_dryBy_71 : decode cX12_dryBy 71 = .ok (.iconst 0, 1) := by decide +kernel
theorem dX12_dryBy_72 : decode cX12_dryBy 72 = .ok (.iaload, 1) := by decide +kernel
theorem dX12_dryBy_73 : decode cX12_dryBy 73 = .ok (.idiv, 1) := by decide +kernel
theorem dX12_dryBy_74 : decode cX12_dryBy 74 = .ok (.istore 4, 2) := by decide +kernel
theorem dX12_dryBy_76 : decode cX12_dryBy 76 = .ok (.iinc 5 1, 3) := by decide +kernel
theorem dX12_dryBy_79 : decode cX12_dryBy 79 = .ok (.goto (-41), 3) := by decide +kernel
theorem dX12_dryBy_82 : decode cX12_dryBy 82 = .ok (.iconst 1, 1) := by decide +kernel
theorem dX12_dryBy_83 : decode cX12_dryBy 83 = .ok (.iload_n 1, 1) := by decide +kernel
theorem dX12_dryBy_84 : decode cX12_dryBy 84 = .ok (.ishl, 1) := by decide +kernel
theorem dX12_dryBy_85 : decode cX12_dryBy 85 = .ok (.iconst 1, 1) := by decide +kernel
theorem dX12_dryBy_86 : decode cX12_dryBy 86 = .ok (.isub, 1) := by decide +kernel
theorem dX12_dryBy_87 : decode cX12_dryBy 87 = .ok (.istore 5, 2) := by decide +kernel
theorem dX12_dryBy_89 : decode cX12_dryBy 89 = .ok (.aload_n 0, 1) := by decide +kernel
theorem dX12_dryBy_90 : decode cX12_dryBy 90 = .ok (.getfield 199, 3) := by decide +kernel
theorem dX12_dryBy_93 : decode cX12_dryBy 93 = .ok (.iload 5, 2) := by decide +kernel
theorem dX12_dryBy_95 : decode cX12_dryBy 95 = .ok (.iand, 1) := by decide +kernel
theorem dX12_dryBy_96 : decode cX12_dryBy 96 = .ok (.istore 6, 2) := by decide +kernel
theorem dX12_dryBy_98 : decode cX12_dryBy 98 = .ok (.iconst 0, 1) := by decide +kernel
theorem dX12_dryBy_99 : decode cX12_dryBy 99 = .ok (.istore 7, 2) := by decide +kernel
theorem dX12_dryBy_101 : decode cX12_dryBy 101 = .ok (.iload 7, 2) := by decide +kernel
theorem dX12_dryBy_103 : decode cX12_dryBy 103 = .ok (.bipush 48, 2) := by decide +kernel
theorem dX12_dryBy_105 : decode cX12_dryBy 105 = .ok (.if_icmp .gt 49, 3) := by decide +kernel
theorem dX12_dryBy_108 : decode cX12_dryBy 108 = .ok (.aload_n 0, 1) := by decide +kernel
theorem dX12_dryBy_109 : decode cX12_dryBy 109 = .ok (.getfield 199, 3) := by decide +kernel
theorem dX12_dryBy_112 : decode cX12_dryBy 112 = .ok (.iload 5, 2) := by decide +kernel
theorem dX12_dryBy_114 : decode cX12_dryBy 114 = .ok (.iand, 1) := by decide +kernel
theorem dX12_dryBy_115 : decode cX12_dryBy 115 = .ok (.iload 6, 2) := by decide +kernel
theorem dX12_dryBy_117 : decode cX12_dryBy 117 = .ok (.if_icmp .eq 6, 3) := by decide +kernel
theorem dX12_dryBy_120 : decode cX12_dryBy 120 = .ok (.ldc 89, 2) := by decide +kernel
theorem dX12_dryBy_122 : decode cX12_dryBy 122 = .ok (.ireturn, 1) := by decide +kernel
theorem dX12_dryBy_123 : decode cX12_dryBy 123 = .ok (.aload_n 0, 1) := by decide +kernel
theorem dX12_dryBy_124 : decode cX12_dryBy 124 = .ok (.iload 5, 2) := by decide +kernel
theorem dX12_dryBy_126 : decode cX12_dryBy 126 = .ok (.invokevirtual 257, 3) := by decide +kernel
theorem dX12_dryBy_129 : decode cX12_dryBy 129 = .ok (.ifCond .eq 6, 3) := by decide +kernel
theorem dX12_dryBy_132 : decode cX12_dryBy 132 = .ok (.iload 7, 2) := by decide +kernel
theorem dX12_dryBy_134 : decode cX12_dryBy 134 = .ok (.ireturn, 1) := by decide +kernel
theorem dX12_dryBy_135 : decode cX12_dryBy 135 = .ok (.aload_n 0, 1) := by decide +kernel
theorem dX12_dryBy_136 : decode cX12_dryBy 136 = .ok (.aload_n 0, 1) := by decide +kernel
theorem dX12_dryBy_137 : decode cX12_dryBy 137 = .ok (.getfield 19, 3) := by decide +kernel
theorem dX12_dryBy_140 : decode cX12_dryBy 140 = .ok (.iconst 3, 1) := by decide +kernel
theorem dX12_dryBy_141 : decode cX12_dryBy 141 = .ok (.iaload, 1) := by decide +kernel
theorem dX12_dryBy_142 : decode cX12_dryBy 142 = .ok (.iload 7, 2) := by decide +kernel
theorem dX12_dryBy_144 : decode cX12_dryBy 144 = .ok (.iadd, 1) := by decide +kernel
theorem dX12_dryBy_145 : decode cX12_dryBy 145 = .ok (.invokevirtual 245, 3) := by decide +kernel
theorem dX12_dryBy_148 : decode cX12_dryBy 148 = .ok (.iinc 7 1, 3) := by decide +kernel
theorem dX12_dryBy_151 : decode cX12_dryBy 151 = .ok (.goto (-50), 3) := by decide +kernel
theorem dX12_dryBy_154 : decode cX12_dryBy 154 = .ok (.ldc 89, 2) := by decide +kernel
theorem dX12_dryBy_156 : decode cX12_dryBy 156 = .ok (.ireturn, 1) := by decide +kernel
theorem dX12_plan_0 : decode cX12_plan 0 = .ok (.aload_n 0, 1) := by decide +kernel
theorem dX12_plan_1 : decode cX12_plan 1 = .ok (.iconst 0, 1) := by decide +kernel
theorem dX12_plan_2 : decode cX12_plan 2 = .ok (.putfield 53, 3) := by decide +kernel
theorem dX12_plan_5 : decode cX12_plan 5 = .ok (.aload_n 0, 1) := by decide +kernel
theorem dX12_plan_6 : decode cX12_plan 6 = .ok (.getfield 192, 3) := by decide +kernel
theorem dX12_plan_9 : decode cX12_plan 9 = .ok (.ifCond .ne 6, 3) := by decide +kernel
theorem dX12_plan_12 : decode cX12_plan 12 = .ok (.ldc 208, 2) := by decide +kernel
theorem dX12_plan_14 : decode cX12_plan 14 = .ok (.ireturn, 1) := by decide +kernel
theorem dX12_plan_15 : decode cX12_plan 15 = .ok (.iload_n 1, 1) := by decide +kernel
theorem dX12_plan_16 : decode cX12_plan 16 = .ok (.i2l, 1) := by decide +kernel
theorem dX12_plan_17 : decode cX12_plan 17 = .ok (.lconst 1, 1) := by decide +kernel
theorem dX12_plan_18 : decode cX12_plan 18 = .ok (.ldc2_w 250, 3) := by decide +kernel
theorem dX12_plan_21 : decode cX12_plan 21 = .ok (.invokestatic 63, 3) := by decide +kernel
theorem dX12_plan_24 : decode cX12_plan 24 = .ok (.ifCond .eq 28, 3) := by decide +kernel
theorem dX12_plan_27 : decode cX12_plan 27 = .ok (.iload_n 1, 1) := by decide +kernel
theorem dX12_plan_28 : decode cX12_plan 28 = .ok (.aload_n 0, 1) := by decide +kernel
theorem dX12_plan_29 : decode cX12_plan 29 = .ok (.getfield 19, 3) := by decide +kernel
theorem dX12_plan_32 : decode cX12_plan 32 = .ok (.iconst 2, 1) := by decide +kernel
theorem dX12_plan_33 : decode cX12_plan 33 = .ok (.iaload, 1) := by decide +kernel
theorem dX12_plan_34 : decode cX12_plan 34 = .ok (.if_icmp .gt 18, 3) := by decide +kernel
theorem dX12_plan_37 : decode cX12_plan 37 = .ok (.iload_n 2, 1) := by decide +kernel
theorem dX12_plan_38 : decode cX12_plan 38 = .ok (.i2l, 1) := by decide +kernel
theorem dX12_plan_39 : decode cX12_plan 39 = .ok (.ldc2_w 248, 3) := by decide +kernel
theorem dX12_plan_42 : decode cX12_plan 42 = .ok (.iload_n 1, 1) := by decide +kernel
theorem dX12_plan_43 : decode cX12_plan 43 = .ok (.iconst 1, 1) := by decide +kernel
theorem dX12_plan_44 : decode cX12_plan 44 = .ok (.isub, 1) := by decide +kernel
theorem dX12_plan_45 : decode cX12_plan 45 = .ok (.i2l, 1) := by decide +kernel
theorem dX12_plan_46 : decode cX12_plan 46 = .ok (.invokestatic 63, 3) := by decide +kernel
theorem dX12_plan_49 : decode cX12_plan 49 = .ok (.ifCond .ne 6, 3) := by decide +kernel
theorem dX12_plan_52 : decode cX12_plan 52 = .ok (.ldc 73, 2) := by decide +kernel
theorem dX12_plan_54 : decode cX12_plan 54 = .ok (.ireturn, 1) := by decide +kernel
theorem dX12_plan_55 : decode cX12_plan 55 = .ok (.iconst 1, 1) := by decide +kernel
theorem dX12_plan_56 : decode cX12_plan 56 = .ok (.istore_n 3, 1) := by decide +kernel
theorem dX12_plan_57 : decode cX12_plan 57 = .ok (.iconst 0, 1) := by decide +kernel
theorem dX12_plan_58 : decode cX12_plan 58 = .ok (.istore 4, 2) := by decide +kernel
theorem dX12_plan_60 : decode cX12_plan 60 = .ok (.iload 4, 2) := by decide +kernel
theorem dX12_plan_62 : decode cX12_plan 62 = .ok (.iload_n 1, 1) := by decide +kernel
theorem dX12_plan_63 : decode cX12_plan 63 = .ok (.if_icmp .ge 18, 3) := by decide +kernel
theorem dX12_plan_66 : decode cX12_plan 66 = .ok (.iload_n 3, 1) := by decide +kernel
theorem dX12_plan_67 : decode cX12_plan 67 = .ok (.aload_n 0, 1) := by decide +kernel
theorem dX12_plan_68 : decode cX12_plan 68 = .ok (.getfield 19, 3) := by decide +kernel
theorem dX12_plan_71 : decode cX12_plan 71 = .ok (.iconst 0, 1) := by decide +kernel
theorem dX12_plan_72 : decode cX12_plan 72 = .ok (.iaload, 1) := by decide +kernel
theorem dX12_plan_73 : decode cX12_plan 73 = .ok (.imul, 1) := by decide +kernel
theorem dX12_plan_74 : decode cX12_plan 74 = .ok (.istore_n 3, 1) := by decide +kernel
theorem dX12_plan_75 : decode cX12_plan 75 = .ok (.iinc 4 1, 3) := by decide +kernel
theorem dX12_plan_78 : decode cX12_plan 78 = .ok (.goto (-18), 3) := by decide +kernel
theorem dX12_plan_81 : decode cX12_plan 81 = .ok (.ldc 89, 2) := by decide +kernel
theorem dX12_plan_83 : decode cX12_plan 83 = .ok (.istore 4, 2) := by decide +kernel
theorem dX12_plan_85 : decode cX12_plan 85 = .ok (.ldc 89, 2) := by decide +kernel
theorem dX12_plan_87 : decode cX12_plan 87 = .ok (.istore 5, 2) := by decide +kernel
theorem dX12_plan_89 : decode cX12_plan 89 = .ok (.iconst 0, 1) := by decide +kernel
theorem dX12_plan_90 : decode cX12_plan 90 = .ok (.istore 6, 2) := by decide +kernel
theorem dX12_plan_92 : decode cX12_plan 92 = .ok (.iload 6, 2) := by decide +kernel
theorem dX12_plan_94 : decode cX12_plan 94 = .ok (.iload_n 3, 1) := by decide +kernel
theorem dX12_plan_95 : decode cX12_plan 95 = .ok (.if_icmp .ge 74, 3) := by decide +kernel
theorem dX12_plan_98 : decode cX12_plan 98 = .ok (.aload_n 0, 1) := by decide +kernel
theorem dX12_plan_99 : decode cX12_plan 99 = .ok (.iload_n 1, 1) := by decide +kernel
theorem dX12_plan_100 : decode cX12_plan 100 = .ok (.iload 6, 2) := by decide +kernel
theorem dX12_plan_102 : decode cX12_plan 102 = .ok (.invokevirtual 260, 3) := by decide +kernel
theorem dX12_plan_105 : decode cX12_plan 105 = .ok (.istore 7, 2) := by decide +kernel
theorem dX12_plan_107 : decode cX12_plan 107 = .ok (.iload 7, 2) := by decide +kernel
theorem dX12_plan_109 : decode cX12_plan 109 = .ok (.ldc 89, 2) := by decide +kernel
theorem dX12_plan_111 : decode cX12_plan 111 = .ok (.if_icmp .eq 21, 3) := by decide +kernel
theorem dX12_plan_114 : decode cX12_plan 114 = .ok (.iload 4, 2) := by decide +kernel
theorem dX12_plan_116 : decode cX12_plan 116 = .ok (.ldc 89, 2) := by decide +kernel
theorem dX12_plan_118 : decode cX12_plan 118 = .ok (.if_icmp .eq 10, 3) := by decide +kernel
theorem dX12_plan_121 : decode cX12_plan 121 = .ok (.iload 7, 2) := by decide +kernel
theorem dX12_plan_123 : decode cX12_plan 123 = .ok (.iload 5, 2) := by decide +kernel
theorem dX12_plan_125 : decode cX12_plan 125 = .ok (.if_icmp .ge 7, 3) := by decide +kernel
theorem dX12_plan_128 : decode cX12_plan 128 = .ok (.iconst 1, 1) := by decide +kernel
theorem dX12_plan_129 : decode cX12_plan 129 = .ok (.goto 4, 3) := by decide +kernel
theorem dX12_plan_132 : decode cX12_plan 132 = .ok (.iconst 0, 1) := by decide +kernel
theorem dX12_plan_133 : decode cX12_plan 133 = .ok (.istore 8, 2) := by decide +kernel
theorem dX12_plan_135 : decode cX12_plan 135 = .ok (.iload 8, 2) := by decide +kernel
theorem dX12_plan_137 : decode cX12_plan 137 = .ok (.ifCond .eq 8, 3) := by decide +kernel
theorem dX12_plan_140 : decode cX12_plan 140 = .ok (.iload 6, 2) := by decide +kernel
theorem dX12_plan_142 : decode cX12_plan 142 = .ok (.goto 5, 3) := by decide +kernel
theorem dX12_plan_145 : decode cX12_plan 145 = .ok (.iload 4, 2) := by decide +kernel
theorem dX12_plan_147 : decode cX12_plan 147 = .ok (.istore 4, 2) := by decide +kernel
theorem dX12_plan_149 : decode cX12_plan 149 = .ok (.iload 8, 2) := by decide +kernel
theorem dX12_plan_151 : decode cX12_plan 151 = .ok (.ifCond .eq 8, 3) := by decide +kernel
theorem dX12_plan_154 : decode cX12_plan 154 = .ok (.iload 7, 2) := by decide +kernel
theorem dX12_plan_156 : decode cX12_plan 156 = .ok (.goto 5, 3) := by decide +kernel
theorem dX12_plan_159 : decode cX12_plan 159 = .ok (.iload 5, 2) := by decide +kernel
theorem dX12_plan_161 : decode cX12_plan 161 = .ok (.istore 5, 2) := by decide +kernel
theorem dX12_plan_163 : decode cX12_plan 163 = .ok (.iinc 6 1, 3) := by decide +kernel
theorem dX12_plan_166 : decode cX12_plan 166 = .ok (.goto (-74), 3) := by decide +kernel
theorem dX12_plan_169 : decode cX12_plan 169 = .ok (.iload 4, 2) := by decide +kernel
theorem dX12_plan_171 : decode cX12_plan 171 = .ok (.ldc 89, 2) := by decide +kernel
theorem dX12_plan_173 : decode cX12_plan 173 = .ok (.if_icmp .eq 7, 3) := by decide +kernel
theorem dX12_plan_176 : decode cX12_plan 176 = .ok (.iload_n 2, 1) := by decide +kernel
theorem dX12_plan_177 : decode cX12_plan 177 = .ok (.ifCond .ge 6, 3) := by decide +kernel
theorem dX12_plan_180 : decode cX12_plan 180 = .ok (.iload 5, 2) := by decide +kernel
theorem dX12_plan_182 : decode cX12_plan 182 = .ok (.ireturn, 1) := by decide +kernel
theorem dX12_plan_183 : decode cX12_plan 183 = .ok (.iload_n 1, 1) := by decide +kernel
theorem dX12_plan_184 : decode cX12_plan 184 = .ok (.iconst 1, 1) := by decide +kernel
theorem dX12_plan_185 : decode cX12_plan 185 = .ok (.isub, 1) := by decide +kernel
theorem dX12_plan_186 : decode cX12_plan 186 = .ok (.istore 6, 2) := by decide +kernel
theorem dX12_plan_188 : decode cX12_plan 188 = .ok (.iload 6, 2) := by decide +kernel
theorem dX12_plan_190 : decode cX12_plan 190 = .ok (.iload_n 2, 1) := by decide +kernel
theorem dX12_plan_191 : decode cX12_plan 191 = .ok (.if_icmp .le 20, 3) := by decide +kernel
theorem dX12_plan_194 : decode cX12_plan 194 = .ok (.iload 4, 2) := by decide +kernel
theorem dX12_plan_196 : decode cX12_plan 196 = .ok (.aload_n 0, 1) := by decide +kernel
theorem dX12_plan_197 : decode cX12_plan 197 = .ok (.getfield 19, 3) := by decide +kernel
theorem dX12_plan_200 : decode cX12_plan 200 = .ok (.iconst 0, 1) := by decide +kernel
theorem dX12_plan_201 : decode cX12_plan 201 = .ok (.iaload, 1) := by decide +kernel
theorem dX12_plan_202 : decode cX12_plan 202 = .ok (.idiv, 1) := by decide +kernel
theorem dX12_plan_203 : decode cX12_plan 203 = .ok (.istore 4, 2) := by decide +kernel
theorem dX12_plan_205 : decode cX12_plan 205 = .ok (.iinc 6 (-1), 3) := by decide +kernel
theorem dX12_plan_208 : decode cX12_plan 208 = .ok (.goto (-20), 3) := by decide +kernel
theorem dX12_plan_211 : decode cX12_plan 211 = .ok (.iload 4, 2) := by decide +kernel
theorem dX12_plan_213 : decode cX12_plan 213 = .ok (.aload_n 0, 1) := by decide +kernel
theorem dX12_plan_214 : decode cX12_plan 214 = .ok (.getfield 19, 3) := by decide +kernel
theorem dX12_plan_217 : decode cX12_plan 217 = .ok (.iconst 0, 1) := by decide +kernel
theorem dX12_plan_218 : decode cX12_plan 218 = .ok (.iaload, 1) := by decide +kernel
theorem dX12_plan_219 : decode cX12_plan 219 = .ok (.irem, 1) := by decide +kernel
theorem dX12_plan_220 : decode cX12_plan 220 = .ok (.ireturn, 1) := by decide +kernel
theorem dX12_whose_0 : decode cX12_whose 0 = .ok (.aload_n 0, 1) := by decide +kernel
theorem dX12_whose_1 : decode cX12_whose 1 = .ok (.iconst 0, 1) := by decide +kernel
theorem dX12_whose_2 : decode cX12_whose 2 = .ok (.putfield 53, 3) := by decide +kernel
theorem dX12_whose_5 : decode cX12_whose 5 = .ok (.aload_n 0, 1) := by decide +kernel
theorem dX12_whose_6 : decode cX12_whose 6 = .ok (.getfield 192, 3) := by decide +kernel
theorem dX12_whose_9 : decode cX12_whose 9 = .ok (.ifCond .ne 6, 3) := by decide +kernel
theorem dX12_whose_12 : decode cX12_whose 12 = .ok (.ldc 208, 2) := by decide +kernel
theorem dX12_whose_14 : decode cX12_whose 14 = .ok (.ireturn, 1) := by decide +kernel
theorem dX12_whose_15 : decode cX12_whose 15 = .ok (.iload_n 1, 1) := by decide +kernel
theorem dX12_whose_16 : decode cX12_whose 16 = .ok (.i2l, 1) := by decide +kernel
theorem dX12_whose_17 : decode cX12_whose 17 = .ok (.lconst 0, 1) := by decide +kernel
theorem dX12_whose_18 : decode cX12_whose 18 = .ok (.ldc2_w 263, 3) := by decide +kernel
theorem dX12_whose_21 : decode cX12_whose 21 = .ok (.invokestatic 63, 3) := by decide +kernel
theorem dX12_whose_24 : decode cX12_whose 24 = .ok (.ifCond .eq 15, 3) := by decide +kernel
theorem dX12_whose_27 : decode cX12_whose 27 = .ok (.iload_n 2, 1) := by decide +kernel
theorem dX12_whose_28 : decode cX12_whose 28 = .ok (.i2l, 1) := by decide +kernel
theorem dX12_whose_29 : decode cX12_whose 29 = .ok (.lconst 0, 1) := by decide +kernel
theorem dX12_whose_30 : decode cX12_whose 30 = .ok (.ldc2_w 265, 3) := by decide +kernel
theorem dX12_whose_33 : decode cX12_whose 33 = .ok (.invokestatic 63, 3) := by decide +kernel
theorem dX12_whose_36 : decode cX12_whose 36 = .ok (.ifCond .ne 6, 3) := by decide +kernel
theorem dX12_whose_39 : decode cX12_whose 39 = .ok (.ldc 73, 2) := by decide +kernel
theorem dX12_whose_41 : decode cX12_whose 41 = .ok (.ireturn, 1) := by decide +kernel
theorem dX12_whose_42 : decode cX12_whose 42 = .ok (.iconst 0, 1) := by decide +kernel
theorem dX12_whose_43 : decode cX12_whose 43 = .ok (.istore_n 3, 1) := by decide +kernel
theorem dX12_whose_44 : decode cX12_whose 44 = .ok (.iconst 0, 1) := by decide +kernel
theorem dX12_whose_45 : decode cX12_whose 45 = .ok (.istore 4, 2) := by decide +kernel
theorem dX12_whose_47 : decode cX12_whose 47 = .ok (.iload 4, 2) := by decide +kernel
theorem dX12_whose_49 : decode cX12_whose 49 = .ok (.aload_n 0, 1) := by decide +kernel
theorem dX12_whose_50 : decode cX12_whose 50 = .ok (.getfield 19, 3) := by decide +kernel
theorem dX12_whose_53 : decode cX12_whose 53 = .ok (.iconst 2, 1) := by decide +kernel
theorem dX12_whose_54 : decode cX12_whose 54 = .ok (.iaload, 1) := by decide +kernel
theorem dX12_whose_55 : decode cX12_whose 55 = .ok (.if_icmp .ge 87, 3) := by decide +kernel
theorem dX12_whose_58 : decode cX12_whose 58 = .ok (.aload_n 0, 1) := by decide +kernel
theorem dX12_whose_59 : decode cX12_whose 59 = .ok (.iload 4, 2) := by decide +kernel
theorem dX12_whose_61 : decode cX12_whose 61 = .ok (.iconst 4, 1) := by decide +kernel
theorem dX12_whose_62 : decode cX12_whose 62 = .ok (.invokevirtual 202, 3) := by decide +kernel
theorem dX12_whose_65 : decode cX12_whose 65 = .ok (.istore 5, 2) := by decide +kernel
theorem dX12_whose_67 : decode cX12_whose 67 = .ok (.iload 5, 2) := by decide +kernel
theorem dX12_whose_69 : decode cX12_whose 69 = .ok (.ldc 89, 2) := by decide +kernel
theorem dX12_whose_71 : decode cX12_whose 71 = .ok (.if_icmp .eq 46, 3) := by decide +kernel
theorem dX12_whose_74 : decode cX12_whose 74 = .ok (.aload_n 0, 1) := by decide +kernel
theorem dX12_whose_75 : decode cX12_whose 75 = .ok (.iload 5, 2) := by decide +kernel
theorem dX12_whose_77 : decode cX12_whose 77 = .ok (.invokevirtual 196, 3) := by decide +kernel
theorem dX12_whose_80 : decode cX12_whose 80 = .ok (.iload_n 1, 1) := by decide +kernel
theorem dX12_whose_81 : decode cX12_whose 81 = .ok (.if_icmp .le 36, 3) := by decide +kernel
theorem dX12_whose_84 : decode cX12_whose 84 = .ok (.aload_n 0, 1) := by decide +kernel
theorem dX12_whose_85 : decode cX12_whose 85 = .ok (.getfield 19, 3) := by decide +kernel
theorem dX12_whose_88 : decode cX12_whose 88 = .ok (.bipush 28, 2) := by decide +kernel
theorem dX12_whose_90 : decode cX12_whose 90 = .ok (.iconst 3, 1) := by decide +kernel
theorem dX12_whose_91 : decode cX12_whose 91 = .ok (.iload 5, 2) := by decide +kernel
theorem dX12_whose_93 : decode cX12_whose 93 = .ok (.imul, 1) := by decide +kernel
theorem dX12_whose_94 : decode cX12_whose 94 = .ok (.iadd, 1) := by decide +kernel
theorem dX12_whose_95 : decode cX12_whose 95 = .ok (.iconst 1, 1) := by decide +kernel
theorem dX12_whose_96 : decode cX12_whose 96 = .ok (.iadd, 1) := by decide +kernel
theorem dX12_whose_97 : decode cX12_whose 97 = .ok (.iaload, 1) := by decide +kernel
theorem dX12_whose_98 : decode cX12_whose 98 = .ok (.iload_n 2, 1) := by decide +kernel
theorem dX12_whose_99 : decode cX12_whose 99 = .ok (.if_icmp .ne 18, 3) := by decide +kernel
theorem dX12_whose_102 : decode cX12_whose 102 = .ok (.aload_n 0, 1) := by decide +kernel
theorem dX12_whose_103 : decode cX12_whose 103 = .ok (.iload 4, 2) := by decide +kernel
theorem dX12_whose_105 : decode cX12_whose 105 = .ok (.iconst 3, 1) := by decide +kernel
theorem dX12_whose_106 : decode cX12_whose 106 = .ok (.invokevirtual 202, 3) := by decide +kernel
theorem dX12_whose_109 : decode cX12_whose 109 = .ok (.iconst 3, 1) := by decide +kernel
theorem dX12_whose_110 : decode cX12_whose 110 = .ok (.if_icmp .gt 7, 3) := by decide +kernel
theorem dX12_whose_113 : decode cX12_whose 113 = .ok (.iconst 1, 1) := by decide +kernel
theorem dX12_whose_114 : decode cX12_whose 114 = .ok (.goto 4, 3) := by decide +kernel
theorem dX12_whose_117 : decode cX12_whose 117 = .ok (.iconst 0, 1) := by decide +kernel
theorem dX12_whose_118 : decode cX12_whose 118 = .ok (.istore 6, 2) := by decide +kernel
theorem dX12_whose_120 : decode cX12_whose 120 = .ok (.iload_n 3, 1) := by decide +kernel
theorem dX12_whose_121 : decode cX12_whose 121 = .ok (.iload 6, 2) := by decide +kernel
theorem dX12_whose_123 : decode cX12_whose 123 = .ok (.ifCond .eq 10, 3) := by decide +kernel
theorem dX12_whose_126 : decode cX12_whose 126 = .ok (.iconst 1, 1) := by decide +kernel
theorem dX12_whose_127 : decode cX12_whose 127 = .ok (.iload 4, 2) := by decide +kernel
theorem dX12_whose_129 : decode cX12_whose 129 = .ok (.ishl, 1) := by decide +kernel
theorem dX12_whose_130 : decode cX12_whose 130 = .ok (.goto 4, 3) := by decide +kernel
theorem dX12_whose_133 : decode cX12_whose 133 = .ok (.iconst 0, 1) := by decide +kernel
theorem dX12_whose_134 : decode cX12_whose 134 = .ok (.ior, 1) := by decide +kernel
theorem dX12_whose_135 : decode cX12_whose 135 = .ok (.istore_n 3, 1) := by decide +kernel
theorem dX12_whose_136 : decode cX12_whose 136 = .ok (.iinc 4 1, 3) := by decide +kernel
theorem dX12_whose_139 : decode cX12_whose 139 = .ok (.goto (-92), 3) := by decide +kernel
theorem dX12_whose_142 : decode cX12_whose 142 = .ok (.iload_n 3, 1) := by decide +kernel
theorem dX12_whose_143 : decode cX12_whose 143 = .ok (.ireturn, 1) := by decide +kernel
theorem dX12_sunsOf_0 : decode cX12_sunsOf 0 = .ok (.iconst 0, 1) := by decide +kernel
theorem dX12_sunsOf_1 : decode cX12_sunsOf 1 = .ok (.istore 5, 2) := by decide +kernel
theorem dX12_sunsOf_3 : decode cX12_sunsOf 3 = .ok (.iload_n 2, 1) := by decide +kernel
theorem dX12_sunsOf_4 : decode cX12_sunsOf 4 = .ok (.istore 6, 2) := by decide +kernel
theorem dX12_sunsOf_6 : decode cX12_sunsOf 6 = .ok (.iload 6, 2) := by decide +kernel
theorem dX12_sunsOf_8 : decode cX12_sunsOf 8 = .ok (.iload_n 3, 1) := by decide +kernel
theorem dX12_sunsOf_9 : decode cX12_sunsOf 9 = .ok (.if_icmp .gt 31, 3) := by decide +kernel
theorem dX12_sunsOf_12 : decode cX12_sunsOf 12 = .ok (.iload 5, 2) := by decide +kernel
theorem dX12_sunsOf_14 : decode cX12_sunsOf 14 = .ok (.aload_n 0, 1) := by decide +kernel
theorem dX12_sunsOf_15 : decode cX12_sunsOf 15 = .ok (.iload_n 1, 1) := by decide +kernel
theorem dX12_sunsOf_16 : decode cX12_sunsOf 16 = .ok (.iload 6, 2) := by decide +kernel
theorem dX12_sunsOf_18 : decode cX12_sunsOf 18 = .ok (.iload 4, 2) := by decide +kernel
theorem dX12_sunsOf_20 : decode cX12_sunsOf 20 = .ok (.invokevirtual 230, 3) := by decide +kernel
theorem dX12_sunsOf_23 : decode cX12_sunsOf 23 = .ok (.ifCond .eq 7, 3) := by decide +kernel
theorem dX12_sunsOf_26 : decode cX12_sunsOf 26 = .ok (.iconst 1, 1) := by decide +kernel
theorem dX12_sunsOf_27 : decode cX12_sunsOf 27 = .ok (.goto 4, 3) := by decide +kernel
theorem dX12_sunsOf_30 : decode cX12_sunsOf 30 = .ok (.iconst 0, 1) := by decide +kernel
theorem dX12_sunsOf_31 : decode cX12_sunsOf 31 = .ok (.iadd, 1) := by decide +kernel
theorem dX12_sunsOf_32 : decode cX12_sunsOf 32 = .ok (.istore 5, 2) := by decide +kernel
theorem dX12_sunsOf_34 : decode cX12_sunsOf 34 = .ok (.iinc 6 1, 3) := by decide +kernel
theorem dX12_sunsOf_37 : decode cX12_sunsOf 37 = .ok (.goto (-31), 3) := by decide +kernel
theorem dX12_sunsOf_40 : decode cX12_sunsOf 40 = .ok (.iload 5, 2) := by decide +kernel
theorem dX12_sunsOf_42 : decode cX12_sunsOf 42 = .ok (.ireturn, 1) := by decide +kernel
theorem dX12_sun_0 : decode cX12_sun 0 = .ok (.aload_n 0, 1) := by decide +kernel
theorem dX12_sun_1 : decode cX12_sun 1 = .ok (.iconst 0, 1) := by decide +kernel
theorem dX12_sun_2 : decode cX12_sun 2 = .ok (.putfield 53, 3) := by decide +kernel
theorem dX12_sun_5 : decode cX12_sun 5 = .ok (.aload_n 0, 1) := by decide +kernel
theorem dX12_sun_6 : decode cX12_sun 6 = .ok (.iload_n 1, 1) := by decide +kernel
theorem dX12_sun_7 : decode cX12_sun 7 = .ok (.invokevirtual 218, 3) := by decide +kernel
theorem dX12_sun_10 : decode cX12_sun 10 = .ok (.ifCond .eq 27, 3) := by decide +kernel
theorem dX12_sun_13 : decode cX12_sun 13 = .ok (.iload_n 2, 1) := by decide +kernel
theorem dX12_sun_14 : decode cX12_sun 14 = .ok (.i2l, 1) := by decide +kernel
theorem dX12_sun_15 : decode cX12_sun 15 = .ok (.lconst 0, 1) := by decide +kernel
theorem dX12_sun_16 : decode cX12_sun 16 = .ok (.ldc2_w 263, 3) := by decide +kernel
theorem dX12_sun_19 : decode cX12_sun 19 = .ok (.invokestatic 63, 3) := by decide +kernel
theorem dX12_sun_22 : decode cX12_sun 22 = .ok (.ifCond .eq 15, 3) := by decide +kernel
theorem dX12_sun_25 : decode cX12_sun 25 = .ok (.aload_n 0, 1) := by decide +kernel
theorem dX12_sun_26 : decode cX12_sun 26 = .ok (.iload_n 1, 1) := by decide +kernel
theorem dX12_sun_27 : decode cX12_sun 27 = .ok (.iconst 0, 1) := by decide +kernel
theorem dX12_sun_28 : decode cX12_sun 28 = .ok (.bipush 23, 2) := by decide +kernel
theorem dX12_sun_30 : decode cX12_sun 30 = .ok (.iload_n 2, 1) := by decide +kernel
theorem dX12_sun_31 : decode cX12_sun 31 = .ok (.invokevirtual 267, 3) := by decide +kernel
theorem dX12_sun_34 : decode cX12_sun 34 = .ok (.goto 5, 3) := by decide +kernel
theorem dX12_sun_37 : decode cX12_sun 37 = .ok (.ldc 73, 2) := by decide +kernel
theorem dX12_sun_39 : decode cX12_sun 39 = .ok (.ireturn, 1) := by decide +kernel
theorem dX12_point_0 : decode cX12_point 0 = .ok (.ldc 89, 2) := by decide +kernel
theorem dX12_point_2 : decode cX12_point 2 = .ok (.istore_n 3, 1) := by decide +kernel
theorem dX12_point_3 : decode cX12_point 3 = .ok (.iconst 0, 1) := by decide +kernel
theorem dX12_point_4 : decode cX12_point 4 = .ok (.istore 4, 2) := by decide +kernel
theorem dX12_point_6 : decode cX12_point 6 = .ok (.iload 4, 2) := by decide +kernel
theorem dX12_point_8 : decode cX12_point 8 = .ok (.iload_n 1, 1) := by decide +kernel
theorem dX12_point_9 : decode cX12_point 9 = .ok (.if_icmp .ge 106, 3) := by decide +kernel
theorem dX12_point_12 : decode cX12_point 12 = .ok (.aload_n 0, 1) := by decide +kernel
theorem dX12_point_13 : decode cX12_point 13 = .ok (.getfield 37, 3) := by decide +kernel
theorem dX12_point_16 : decode cX12_point 16 = .ok (.iload 4, 2) := by decide +kernel
theorem dX12_point_18 : decode cX12_point 18 = .ok (.iaload, 1) := by decide +kernel
theorem dX12_point_19 : decode cX12_point 19 = .ok (.ldc 89, 2) := by decide +kernel
theorem dX12_point_21 : decode cX12_point 21 = .ok (.if_icmp .ne 88, 3) := by decide +kernel
theorem dX12_point_24 : decode cX12_point 24 = .ok (.iload_n 3, 1) := by decide +kernel
theorem dX12_point_25 : decode cX12_point 25 = .ok (.ldc 89, 2) := by decide +kernel
theorem dX12_point_27 : decode cX12_point 27 = .ok (.if_icmp .ne 7, 3) := by decide +kernel
theorem dX12_point_30 : decode cX12_point 30 = .ok (.iconst 1, 1) := by decide +kernel
theorem dX12_point_31 : decode cX12_point 31 = .ok (.goto 43, 3) := by decide +kernel
theorem dX12_point_34 : decode cX12_point 34 = .ok (.aload_n 0, 1) := by decide +kernel
theorem dX12_point_35 : decode cX12_point 35 = .ok (.aload_n 0, 1) := by decide +kernel
theorem dX12_point_36 : decode cX12_point 36 = .ok (.getfield 34, 3) := by decide +kernel
theorem dX12_point_39 : decode cX12_point 39 = .ok (.iload 4, 2) := by decide +kernel
theorem dX12_point_41 : decode cX12_point 41 = .ok (.iaload, 1) := by decide +kernel
theorem dX12_point_42 : decode cX12_point 42 = .ok (.iconst 4, 1) := by decide +kernel
theorem dX12_point_43 : decode cX12_point 43 = .ok (.iload_n 2, 1) := by decide +kernel
theorem dX12_point_44 : decode cX12_point 44 = .ok (.imul, 1) := by decide +kernel
theorem dX12_point_45 : decode cX12_point 45 = .ok (.iconst 4, 1) := by decide +kernel
theorem dX12_point_46 : decode cX12_point 46 = .ok (.iload_n 2, 1) := by decide +kernel
theorem dX12_point_47 : decode cX12_point 47 = .ok (.imul, 1) := by decide +kernel
theorem dX12_point_48 : decode cX12_point 48 = .ok (.iconst 3, 1) := by decide +kernel
theorem dX12_point_49 : decode cX12_point 49 = .ok (.iadd, 1) := by decide +kernel
theorem dX12_point_50 : decode cX12_point 50 = .ok (.iconst 0, 1) := by decide +kernel
theorem dX12_point_51 : decode cX12_point 51 = .ok (.invokevirtual 267, 3) := by decide +kernel
theorem dX12_point_54 : decode cX12_point 54 = .ok (.aload_n 0, 1) := by decide +kernel
theorem dX12_point_55 : decode cX12_point 55 = .ok (.aload_n 0, 1) := by decide +kernel
theorem dX12_point_56 : decode cX12_point 56 = .ok (.getfield 34, 3) := by decide +kernel
theorem dX12_point_59 : decode cX12_point 59 = .ok (.iload_n 3, 1) := by decide +kernel
theorem dX12_point_60 : decode cX12_point 60 = .ok (.iaload, 1) := by decide +kernel
theorem dX12_point_61 : decode cX12_point 61 = .ok (.iconst 4, 1) := by decide +kernel
theorem dX12_point_62 : decode cX12_point 62 = .ok (.iload_n 2, 1) := by decide +kernel
theorem dX12_point_63 : decode cX12_point 63 = .ok (.imul, 1) := by decide +kernel
theorem dX12_point_64 : decode cX12_point 64 = .ok (.iconst 4, 1) := by decide +kernel
theorem dX12_point_65 : decode cX12_point 65 = .ok (.iload_n 2, 1) := by decide +kernel
theorem dX12_point_66 : decode cX12_point 66 = .ok (.imul, 1) := by decide +kernel
theorem dX12_point_67 : decode cX12_point 67 = .ok (.iconst 3, 1) := by decide +kernel
theorem dX12_point_68 : decode cX12_point 68 = .ok (.iadd, 1) := by decide +kernel
theorem dX12_point_69 : decode cX12_point 69 = .ok (.iconst 0, 1) := by decide +kernel
theorem dX12_point_70 : decode cX12_point 70 = .ok (.invokevirtual 267, 3) := by decide +kernel
theorem dX12_point_73 : decode cX12_point 73 = .ok (.isub, 1) := by decide +kernel
theorem dX12_point_74 : decode cX12_point 74 = .ok (.istore 5, 2) := by decide +kernel
theorem dX12_point_76 : decode cX12_point 76 = .ok (.iload 5, 2) := by decide +kernel
theorem dX12_point_78 : decode cX12_point 78 = .ok (.ifCond .gt 24, 3) := by decide +kernel
theorem dX12_point_81 : decode cX12_point 81 = .ok (.iload 5, 2) := by decide +kernel
theorem dX12_point_83 : decode cX12_point 83 = .ok (.ifCond .ne 24, 3) := by decide +kernel
theorem dX12_point_86 : decode cX12_point 86 = .ok (.aload_n 0, 1) := by decide +kernel
theorem dX12_point_87 : decode cX12_point 87 = .ok (.getfield 34, 3) := by decide +kernel
theorem dX12_point_90 : decode cX12_point 90 = .ok (.iload 4, 2) := by decide +kernel
theorem dX12_point_92 : decode cX12_point 92 = .ok (.iaload, 1) := by decide +kernel
theorem dX12_point_93 : decode cX12_point 93 = .ok (.aload_n 0, 1) := by decide +kernel
theorem dX12_point_94 : decode cX12_point 94 = .ok (.getfield 34, 3) := by decide +kernel
theorem dX12_point_97 : decode cX12_point 97 = .ok (.iload_n 3, 1) := by decide +kernel
theorem dX12_point_98 : decode cX12_point 98 = .ok (.iaload, 1) := by decide +kernel
theorem dX12_point_99 : decode cX12_point 99 = .ok (.if_icmp .ge 8, 3) := by decide +kernel
theorem dX12_point_102 : decode cX12_point 102 = .ok (.iload 4, 2) := by decide +kernel
theorem dX12_point_104 : decode cX12_point 104 = .ok (.goto 4, 3) := by decide +kernel
theorem dX12_point_107 : decode cX12_point 107 = .ok (.iload_n 3, 1) := by decide +kernel
theorem dX12_point_108 : decode cX12_point 108 = .ok (.istore_n 3, 1) := by decide +kernel
theorem dX12_point_109 : decode cX12_point 109 = .ok (.iinc 4 1, 3) := by decide +kernel
theorem dX12_point_112 : decode cX12_point 112 = .ok (.goto (-106), 3) := by decide +kernel
theorem dX12_point_115 : decode cX12_point 115 = .ok (.aload_n 0, 1) := by decide +kernel
theorem dX12_point_116 : decode cX12_point 116 = .ok (.getfield 40, 3) := by decide +kernel
theorem dX12_point_119 : decode cX12_point 119 = .ok (.iload_n 2, 1) := by decide +kernel
theorem dX12_point_120 : decode cX12_point 120 = .ok (.iload_n 3, 1) := by decide +kernel
theorem dX12_point_121 : decode cX12_point 121 = .ok (.iastore, 1) := by decide +kernel
theorem dX12_point_122 : decode cX12_point 122 = .ok (.return_, 1) := by decide +kernel
theorem dX12_isInRing_0 : decode cX12_isInRing 0 = .ok (.aload_n 0, 1) := by decide +kernel
theorem dX12_isInRing_1 : decode cX12_isInRing 1 = .ok (.getfield 40, 3) := by decide +kernel
theorem dX12_isInRing_4 : decode cX12_isInRing 4 = .ok (.iload_n 2, 1) := by decide +kernel
theorem dX12_isInRing_5 : decode cX12_isInRing 5 = .ok (.iaload, 1) := by decide +kernel
theorem dX12_isInRing_6 : decode cX12_isInRing 6 = .ok (.istore_n 3, 1) := by decide +kernel
theorem dX12_isInRing_7 : decode cX12_isInRing 7 = .ok (.iconst 0, 1) := by decide +kernel
theorem dX12_isInRing_8 : decode cX12_isInRing 8 = .ok (.istore 4, 2) := by decide +kernel
theorem dX12_isInRing_10 : decode cX12_isInRing 10 = .ok (.iload 4, 2) := by decide +kernel
theorem dX12_isInRing_12 : decode cX12_isInRing 12 = .ok (.iload_n 1, 1) := by decide +kernel
theorem dX12_isInRing_13 : decode cX12_isInRing 13 = .ok (.if_icmp .ge 21, 3) := by decide +kernel
theorem dX12_isInRing_16 : decode cX12_isInRing 16 = .ok (.iload_n 3, 1) := by decide +kernel
theorem dX12_isInRing_17 : decode cX12_isInRing 17 = .ok (.iload_n 2, 1) := by decide +kernel
theorem dX12_isInRing_18 : decode cX12_isInRing 18 = .ok (.if_icmp .eq 16, 3) := by decide +kernel
theorem dX12_isInRing_21 : decode cX12_isInRing 21 = .ok (.aload_n 0, 1) := by decide +kernel
theorem dX12_isInRing_22 : decode cX12_isInRing 22 = .ok (.getfield 40, 3) := by decide +kernel
theorem dX12_isInRing_25 : decode cX12_isInRing 25 = .ok (.iload_n 3, 1) := by decide +kernel
theorem dX12_isInRing_26 : decode cX12_isInRing 26 = .ok (.iaload, 1) := by decide +kernel
theorem dX12_isInRing_27 : decode cX12_isInRing 27 = .ok (.istore_n 3, 1) := by decide +kernel
theorem dX12_isInRing_28 : decode cX12_isInRing 28 = .ok (.iinc 4 1, 3) := by decide +kernel
theorem dX12_isInRing_31 : decode cX12_isInRing 31 = .ok (.goto (-21), 3) := by decide +kernel
theorem dX12_isInRing_34 : decode cX12_isInRing 34 = .ok (.iload_n 3, 1) := by decide +kernel
theorem dX12_isInRing_35 : decode cX12_isInRing 35 = .ok (.iload_n 2, 1) := by decide +kernel
theorem dX12_isInRing_36 : decode cX12_isInRing 36 = .ok (.if_icmp .ne 7, 3) := by decide +kernel
theorem dX12_isInRing_39 : decode cX12_isInRing 39 = .ok (.iconst 1, 1) := by decide +kernel
theorem dX12_isInRing_40 : decode cX12_isInRing 40 = .ok (.goto 4, 3) := by decide +kernel
theorem dX12_isInRing_43 : decode cX12_isInRing 43 = .ok (.iconst 0, 1) := by decide +kernel
theorem dX12_isInRing_44 : decode cX12_isInRing 44 = .ok (.ireturn, 1) := by decide +kernel
theorem dX12_turn_0 : decode cX12_turn 0 = .ok (.iconst 0, 1) := by decide +kernel
theorem dX12_turn_1 : decode cX12_turn 1 = .ok (.istore_n 2, 1) := by decide +kernel
theorem dX12_turn_2 : decode cX12_turn 2 = .ok (.iconst 0, 1) := by decide +kernel
theorem dX12_turn_3 : decode cX12_turn 3 = .ok (.istore_n 3, 1) := by decide +kernel
theorem dX12_turn_4 : decode cX12_turn 4 = .ok (.iload_n 3, 1) := by decide +kernel
theorem dX12_turn_5 : decode cX12_turn 5 = .ok (.iload_n 1, 1) := by decide +kernel
theorem dX12_turn_6 : decode cX12_turn 6 = .ok (.if_icmp .ge 26, 3) := by decide +kernel
theorem dX12_turn_9 : decode cX12_turn 9 = .ok (.aload_n 0, 1) := by decide +kernel
theorem dX12_turn_10 : decode cX12_turn 10 = .ok (.getfield 37, 3) := by decide +kernel
theorem dX12_turn_13 : decode cX12_turn 13 = .ok (.iload_n 3, 1) := by decide +kernel
theorem dX12_turn_14 : decode cX12_turn 14 = .ok (.iaload, 1) := by decide +kernel
theorem dX12_turn_15 : decode cX12_turn 15 = .ok (.ldc 89, 2) := by decide +kernel
theorem dX12_turn_17 : decode cX12_turn 17 = .ok (.if_icmp .ne 9, 3) := by decide +kernel
theorem dX12_turn_20 : decode cX12_turn 20 = .ok (.aload_n 0, 1) := by decide +kernel
theorem dX12_turn_21 : decode cX12_turn 21 = .ok (.iload_n 1, 1) := by decide +kernel
theorem dX12_turn_22 : decode cX12_turn 22 = .ok (.iload_n 3, 1) := by decide +kernel
theorem dX12_turn_23 : decode cX12_turn 23 = .ok (.invokevirtual 271, 3) := by decide +kernel
theorem dX12_turn_26 : decode cX12_turn 26 = .ok (.iinc 3 1, 3) := by decide +kernel
theorem dX12_turn_29 : decode cX12_turn 29 = .ok (.goto (-25), 3) := by decide +kernel
theorem dX12_turn_32 : decode cX12_turn 32 = .ok (.iconst 0, 1) := by decide +kernel
theorem dX12_turn_33 : decode cX12_turn 33 = .ok (.istore_n 3, 1) := by decide +kernel
theorem dX12_turn_34 : decode cX12_turn 34 = .ok (.iload_n 3, 1) := by decide +kernel
theorem dX12_turn_35 : decode cX12_turn 35 = .ok (.iload_n 1, 1) := by decide +kernel
theorem dX12_turn_36 : decode cX12_turn 36 = .ok (.if_icmp .ge 39, 3) := by decide +kernel
theorem dX12_turn_39 : decode cX12_turn 39 = .ok (.iload_n 2, 1) := by decide +kernel
theorem dX12_turn_40 : decode cX12_turn 40 = .ok (.aload_n 0, 1) := by decide +kernel
theorem dX12_turn_41 : decode cX12_turn 41 = .ok (.getfield 37, 3) := by decide +kernel
theorem dX12_turn_44 : decode cX12_turn 44 = .ok (.iload_n 3, 1) := by decide +kernel
theorem dX12_turn_45 : decode cX12_turn 45 = .ok (.iaload, 1) := by decide +kernel
theorem dX12_turn_46 : decode cX12_turn 46 = .ok (.ldc 89, 2) := by decide +kernel
theorem dX12_turn_48 : decode cX12_turn 48 = .ok (.if_icmp .ne 18, 3) := by decide +kernel
theorem dX12_turn_51 : decode cX12_turn 51 = .ok (.aload_n 0, 1) := by decide +kernel
theorem dX12_turn_52 : decode cX12_turn 52 = .ok (.iload_n 1, 1) := by decide +kernel
theorem dX12_turn_53 : decode cX12_turn 53 = .ok (.iload_n 3, 1) := by decide +kernel
theorem dX12_turn_54 : decode cX12_turn 54 = .ok (.invokevirtual 274, 3) := by decide +kernel
theorem dX12_turn_57 : decode cX12_turn 57 = .ok (.ifCond .eq 9, 3) := by decide +kernel
theorem dX12_turn_60 : decode cX12_turn 60 = .ok (.iconst 1, 1) := by decide +kernel
theorem dX12_turn_61 : decode cX12_turn 61 = .ok (.iload_n 3, 1) := by decide +kernel
theorem dX12_turn_62 : decode cX12_turn 62 = .ok (.ishl, 1) := by decide +kernel
theorem dX12_turn_63 : decode cX12_turn 63 = .ok (.goto 4, 3) := by decide +kernel
theorem dX12_turn_66 : decode cX12_turn 66 = .ok (.iconst 0, 1) := by decide +kernel
theorem dX12_turn_67 : decode cX12_turn 67 = .ok (.ior, 1) := by decide +kernel
theorem dX12_turn_68 : decode cX12_turn 68 = .ok (.istore_n 2, 1) := by decide +kernel
theorem dX12_turn_69 : decode cX12_turn 69 = .ok (.iinc 3 1, 3) := by decide +kernel
theorem dX12_turn_72 : decode cX12_turn 72 = .ok (.goto (-38), 3) := by decide +kernel
theorem dX12_turn_75 : decode cX12_turn 75 = .ok (.iconst 0, 1) := by decide +kernel
theorem dX12_turn_76 : decode cX12_turn 76 = .ok (.istore_n 3, 1) := by decide +kernel
theorem dX12_turn_77 : decode cX12_turn 77 = .ok (.iload_n 3, 1) := by decide +kernel
theorem dX12_turn_78 : decode cX12_turn 78 = .ok (.iload_n 1, 1) := by decide +kernel
theorem dX12_turn_79 : decode cX12_turn 79 = .ok (.if_icmp .ge 44, 3) := by decide +kernel
theorem dX12_turn_82 : decode cX12_turn 82 = .ok (.aload_n 0, 1) := by decide +kernel
theorem dX12_turn_83 : decode cX12_turn 83 = .ok (.getfield 37, 3) := by decide +kernel
theorem dX12_turn_86 : decode cX12_turn 86 = .ok (.iload_n 3, 1) := by decide +kernel
theorem dX12_turn_87 : decode cX12_turn 87 = .ok (.iload_n 2, 1) := by decide +kernel
theorem dX12_turn_88 : decode cX12_turn 88 = .ok (.iload_n 3, 1) := by decide +kernel
theorem dX12_turn_89 : decode cX12_turn 89 = .ok (.ishr, 1) := by decide +kernel
theorem dX12_turn_90 : decode cX12_turn 90 = .ok (.iconst 1, 1) := by decide +kernel
theorem dX12_turn_91 : decode cX12_turn 91 = .ok (.iand, 1) := by decide +kernel
theorem dX12_turn_92 : decode cX12_turn 92 = .ok (.iconst 1, 1) := by decide +kernel
theorem dX12_turn_93 : decode cX12_turn 93 = .ok (.if_icmp .ne 17, 3) := by decide +kernel
theorem dX12_turn_96 : decode cX12_turn 96 = .ok (.aload_n 0, 1) := by decide +kernel
theorem dX12_turn_97 : decode cX12_turn 97 = .ok (.getfield 34, 3) := by decide +kernel
theorem dX12_turn_100 : decode cX12_turn 100 = .ok (.aload_n 0, 1) := by decide +kernel
theorem dX12_turn_101 : decode cX12_turn 101 = .ok (.getfield 40, 3) := by decide +kernel
theorem dX12_turn_104 : decode cX12_turn 104 = .ok (.iload_n 3, 1) := by decide +kernel
theorem dX12_turn_105 : decode cX12_turn 105 = .ok (.iaload, 1) := by decide +kernel
theorem dX12_turn_106 : decode cX12_turn 106 = .ok (.iaload, 1) := by decide +kernel
theorem dX12_turn_107 : decode cX12_turn 107 = .ok (.goto 9, 3) := by decide +kernel
theorem dX12_turn_110 : decode cX12_turn 110 = .ok (.aload_n 0, 1) := by decide +kernel
theorem dX12_turn_111 : decode cX12_turn 111 = .ok (.getfield 37, 3) := by decide +kernel
theorem dX12_turn_114 : decode cX12_turn 114 = .ok (.iload_n 3, 1) := by decide +kernel
theorem dX12_turn_115 : decode cX12_turn 115 = .ok (.iaload, 1) := by decide +kernel
theorem dX12_turn_116 : decode cX12_turn 116 = .ok (.iastore, 1) := by decide +kernel
theorem dX12_turn_117 : decode cX12_turn 117 = .ok (.iinc 3 1, 3) := by decide +kernel
theorem dX12_turn_120 : decode cX12_turn 120 = .ok (.goto (-43), 3) := by decide +kernel
theorem dX12_turn_123 : decode cX12_turn 123 = .ok (.iconst 0, 1) := by decide +kernel
theorem dX12_turn_124 : decode cX12_turn 124 = .ok (.istore_n 3, 1) := by decide +kernel
theorem dX12_turn_125 : decode cX12_turn 125 = .ok (.iconst 0, 1) := by decide +kernel
theorem dX12_turn_126 : decode cX12_turn 126 = .ok (.istore 4, 2) := by decide +kernel
theorem dX12_turn_128 : decode cX12_turn 128 = .ok (.iload 4, 2) := by decide +kernel
theorem dX12_turn_130 : decode cX12_turn 130 = .ok (.iload_n 1, 1) := by decide +kernel
theorem dX12_turn_131 : decode cX12_turn 131 = .ok (.if_icmp .ge 31, 3) := by decide +kernel
theorem dX12_turn_134 : decode cX12_turn 134 = .ok (.iload_n 3, 1) := by decide +kernel
theorem dX12_turn_135 : decode cX12_turn 135 = .ok (.ifCond .ne 15, 3) := by decide +kernel
theorem dX12_turn_138 : decode cX12_turn 138 = .ok (.aload_n 0, 1) := by decide +kernel
theorem dX12_turn_139 : decode cX12_turn 139 = .ok (.getfield 37, 3) := by decide +kernel
theorem dX12_turn_142 : decode cX12_turn 142 = .ok (.iload 4, 2) := by decide +kernel
theorem dX12_turn_144 : decode cX12_turn 144 = .ok (.iaload, 1) := by decide +kernel
theorem dX12_turn_145 : decode cX12_turn 145 = .ok (.ldc 89, 2) := by decide +kernel
theorem dX12_turn_147 : decode cX12_turn 147 = .ok (.if_icmp .ne 7, 3) := by decide +kernel
theorem dX12_turn_150 : decode cX12_turn 150 = .ok (.iconst 1, 1) := by decide +kernel
theorem dX12_turn_151 : decode cX12_turn 151 = .ok (.goto 4, 3) := by decide +kernel
theorem dX12_turn_154 : decode cX12_turn 154 = .ok (.iconst 0, 1) := by decide +kernel
theorem dX12_turn_155 : decode cX12_turn 155 = .ok (.istore_n 3, 1) := by decide +kernel
theorem dX12_turn_156 : decode cX12_turn 156 = .ok (.iinc 4 1, 3) := by decide +kernel
theorem dX12_turn_159 : decode cX12_turn 159 = .ok (.goto (-31), 3) := by decide +kernel
theorem dX12_turn_162 : decode cX12_turn 162 = .ok (.iload_n 3, 1) := by decide +kernel
theorem dX12_turn_163 : decode cX12_turn 163 = .ok (.ireturn, 1) := by decide +kernel
theorem dX12_rings_0 : decode cX12_rings 0 = .ok (.aload_n 0, 1) := by decide +kernel
theorem dX12_rings_1 : decode cX12_rings 1 = .ok (.iconst 0, 1) := by decide +kernel
theorem dX12_rings_2 : decode cX12_rings 2 = .ok (.putfield 53, 3) := by decide +kernel
theorem dX12_rings_5 : decode cX12_rings 5 = .ok (.aload_n 0, 1) := by decide +kernel
theorem dX12_rings_6 : decode cX12_rings 6 = .ok (.getfield 192, 3) := by decide +kernel
theorem dX12_rings_9 : decode cX12_rings 9 = .ok (.ifCond .ne 6, 3) := by decide +kernel
theorem dX12_rings_12 : decode cX12_rings 12 = .ok (.ldc 208, 2) := by decide +kernel
theorem dX12_rings_14 : decode cX12_rings 14 = .ok (.ireturn, 1) := by decide +kernel
theorem dX12_rings_15 : decode cX12_rings 15 = .ok (.iload_n 1, 1) := by decide +kernel
theorem dX12_rings_16 : decode cX12_rings 16 = .ok (.invokestatic 67, 3) := by decide +kernel
theorem dX12_rings_19 : decode cX12_rings 19 = .ok (.ifCond .eq 30, 3) := by decide +kernel
theorem dX12_rings_22 : decode cX12_rings 22 = .ok (.iload_n 2, 1) := by decide +kernel
theorem dX12_rings_23 : decode cX12_rings 23 = .ok (.i2l, 1) := by decide +kernel
theorem dX12_rings_24 : decode cX12_rings 24 = .ok (.ldc2_w 71, 3) := by decide +kernel
theorem dX12_rings_27 : decode cX12_rings 27 = .ok (.ldc2_w 277, 3) := by decide +kernel
theorem dX12_rings_30 : decode cX12_rings 30 = .ok (.invokestatic 63, 3) := by decide +kernel
theorem dX12_rings_33 : decode cX12_rings 33 = .ok (.ifCond .eq 16, 3) := by decide +kernel
theorem dX12_rings_36 : decode cX12_rings 36 = .ok (.iload_n 3, 1) := by decide +kernel
theorem dX12_rings_37 : decode cX12_rings 37 = .ok (.i2l, 1) := by decide +kernel
theorem dX12_rings_38 : decode cX12_rings 38 = .ok (.lconst 0, 1) := by decide +kernel
theorem dX12_rings_39 : decode cX12_rings 39 = .ok (.iload_n 2, 1) := by decide +kernel
theorem dX12_rings_40 : decode cX12_rings 40 = .ok (.iconst 1, 1) := by decide +kernel
theorem dX12_rings_41 : decode cX12_rings 41 = .ok (.isub, 1) := by decide +kernel
theorem dX12_rings_42 : decode cX12_rings 42 = .ok (.i2l, 1) := by decide +kernel
theorem dX12_rings_43 : decode cX12_rings 43 = .ok (.invokestatic 63, 3) := by decide +kernel
theorem dX12_rings_46 : decode cX12_rings 46 = .ok (.ifCond .ne 6, 3) := by decide +kernel
theorem dX12_rings_49 : decode cX12_rings 49 = .ok (.ldc 73, 2) := by decide +kernel
theorem dX12_rings_51 : decode cX12_rings 51 = .ok (.ireturn, 1) := by decide +kernel
theorem dX12_rings_52 : decode cX12_rings 52 = .ok (.aload_n 0, 1) := by decide +kernel
theorem dX12_rings_53 : decode cX12_rings 53 = .ok (.getfield 7, 3) := by decide +kernel
theorem dX12_rings_56 : decode cX12_rings 56 = .ok (.iload_n 1, 1) := by decide +kernel
theorem dX12_rings_57 : decode cX12_rings 57 = .ok (.iaload, 1) := by decide +kernel
theorem dX12_rings_58 : decode cX12_rings 58 = .ok (.ifCond .ge 9, 3) := by decide +kernel
theorem dX12_rings_61 : decode cX12_rings 61 = .ok (.aload_n 0, 1) := by decide +kernel
theorem dX12_rings_62 : decode cX12_rings 62 = .ok (.iconst 1, 1) := by decide +kernel
theorem dX12_rings_63 : decode cX12_rings 63 = .ok (.invokevirtual 74, 3) := by decide +kernel
theorem dX12_rings_66 : decode cX12_rings 66 = .ok (.ireturn, 1) := by decide +kernel
theorem dX12_rings_67 : decode cX12_rings 67 = .ok (.iload_n 2, 1) := by decide +kernel
theorem dX12_rings_68 : decode cX12_rings 68 = .ok (.aload_n 0, 1) := by decide +kernel
theorem dX12_rings_69 : decode cX12_rings 69 = .ok (.getfield 13, 3) := by decide +kernel
theorem dX12_rings_72 : decode cX12_rings 72 = .ok (.iload_n 1, 1) := by decide +kernel
theorem dX12_rings_73 : decode cX12_rings 73 = .ok (.iaload, 1) := by decide +kernel
theorem dX12_rings_74 : decode cX12_rings 74 = .ok (.if_icmp .le 9, 3) := by decide +kernel
theorem dX12_rings_77 : decode cX12_rings 77 = .ok (.aload_n 0, 1) := by decide +kernel
theorem dX12_rings_78 : decode cX12_rings 78 = .ok (.iconst 2, 1) := by decide +kernel
theorem dX12_rings_79 : decode cX12_rings 79 = .ok (.invokevirtual 74, 3) := by decide +kernel
theorem dX12_rings_82 : decode cX12_rings 82 = .ok (.ireturn, 1) := by decide +kernel
theorem dX12_rings_83 : decode cX12_rings 83 = .ok (.iconst 0, 1) := by decide +kernel
theorem dX12_rings_84 : decode cX12_rings 84 = .ok (.istore 4, 2) := by decide +kernel
theorem dX12_rings_86 : decode cX12_rings 86 = .ok (.iconst 0, 1) := by decide +kernel
theorem dX12_rings_87 : decode cX12_rings 87 = .ok (.istore 5, 2) := by decide +kernel
theorem dX12_rings_89 : decode cX12_rings 89 = .ok (.iload 5, 2) := by decide +kernel
theorem dX12_rings_91 : decode cX12_rings 91 = .ok (.iload_n 2, 1) := by decide +kernel
theorem dX12_rings_92 : decode cX12_rings 92 = .ok (.if_icmp .ge 73, 3) := by decide +kernel
theorem dX12_rings_95 : decode cX12_rings 95 = .ok (.aload_n 0, 1) := by decide +kernel
theorem dX12_rings_96 : decode cX12_rings 96 = .ok (.getfield 16, 3) := by decide +kernel
theorem dX12_rings_99 : decode cX12_rings 99 = .ok (.bipush 40, 2) := by decide +kernel
theorem dX12_rings_101 : decode cX12_rings 101 = .ok (.iload_n 1, 1) := by decide +kernel
theorem dX12_rings_102 : decode cX12_rings 102 = .ok (.imul, 1) := by decide +kernel
theorem dX12_rings_103 : decode cX12_rings 103 = .ok (.iload 5, 2) := by decide +kernel
theorem dX12_rings_105 : decode cX12_rings 105 = .ok (.iadd, 1) := by decide +kernel
theorem dX12_rings_106 : decode cX12_rings 106 = .ok (.iaload, 1) := by decide +kernel
theorem dX12_rings_107 : decode cX12_rings 107 = .ok (.istore 6, 2) := by decide +kernel
theorem dX12_rings_109 : decode cX12_rings 109 = .ok (.aload_n 0, 1) := by decide +kernel
theorem dX12_rings_110 : decode cX12_rings 110 = .ok (.iload 6, 2) := by decide +kernel
theorem dX12_rings_112 : decode cX12_rings 112 = .ok (.invokevirtual 218, 3) := by decide +kernel
theorem dX12_rings_115 : decode cX12_rings 115 = .ok (.ifCond .eq 14, 3) := by decide +kernel
theorem dX12_rings_118 : decode cX12_rings 118 = .ok (.iload 4, 2) := by decide +kernel
theorem dX12_rings_120 : decode cX12_rings 120 = .ok (.iload 6, 2) := by decide +kernel
theorem dX12_rings_122 : decode cX12_rings 122 = .ok (.ishr, 1) := by decide +kernel
theorem dX12_rings_123 : decode cX12_rings 123 = .ok (.iconst 1, 1) := by decide +kernel
theorem dX12_rings_124 : decode cX12_rings 124 = .ok (.iand, 1) := by decide +kernel
theorem dX12_rings_125 : decode cX12_rings 125 = .ok (.iconst 1, 1) := by decide +kernel
theorem dX12_rings_126 : decode cX12_rings 126 = .ok (.if_icmp .ne 6, 3) := by decide +kernel
theorem dX12_rings_129 : decode cX12_rings 129 = .ok (.ldc 73, 2) := by decide +kernel
theorem dX12_rings_131 : decode cX12_rings 131 = .ok (.ireturn, 1) := by decide +kernel
theorem dX12_rings_132 : decode cX12_rings 132 = .ok (.iload 4, 2) := by decide +kernel
theorem dX12_rings_134 : decode cX12_rings 134 = .ok (.iconst 1, 1) := by decide +kernel
theorem dX12_rings_135 : decode cX12_rings 135 = .ok (.iload 6, 2) := by decide +kernel
theorem dX12_rings_137 : decode cX12_rings 137 = .ok (.ishl, 1) := by decide +kernel
theorem dX12_rings_138 : decode cX12_rings 138 = .ok (.ior, 1) := by decide +kernel
theorem dX12_rings_139 : decode cX12_rings 139 = .ok (.istore 4, 2) := by decide +kernel
theorem dX12_rings_141 : decode cX12_rings 141 = .ok (.aload_n 0, 1) := by decide +kernel
theorem dX12_rings_142 : decode cX12_rings 142 = .ok (.getfield 34, 3) := by decide +kernel
theorem dX12_rings_145 : decode cX12_rings 145 = .ok (.iload 5, 2) := by decide +kernel
theorem dX12_rings_147 : decode cX12_rings 147 = .ok (.iload 6, 2) := by decide +kernel
theorem dX12_rings_149 : decode cX12_rings 149 = .ok (.iastore, 1) := by decide +kernel
theorem dX12_rings_150 : decode cX12_rings 150 = .ok (.aload_n 0, 1) := by decide +kernel
theorem dX12_rings_151 : decode cX12_rings 151 = .ok (.getfield 37, 3) := by decide +kernel
theorem dX12_rings_154 : decode cX12_rings 154 = .ok (.iload 5, 2) := by decide +kernel
theorem dX12_rings_156 : decode cX12_rings 156 = .ok (.ldc 89, 2) := by decide +kernel
theorem dX12_rings_158 : decode cX12_rings 158 = .ok (.iastore, 1) := by decide +kernel
theorem dX12_rings_159 : decode cX12_rings 159 = .ok (.iinc 5 1, 3) := by decide +kernel
theorem dX12_rings_162 : decode cX12_rings 162 = .ok (.goto (-73), 3) := by decide +kernel
theorem dX12_rings_165 : decode cX12_rings 165 = .ok (.aload_n 0, 1) := by decide +kernel
theorem dX12_rings_166 : decode cX12_rings 166 = .ok (.iconst 0, 1) := by decide +kernel
theorem dX12_rings_167 : decode cX12_rings 167 = .ok (.putfield 57, 3) := by decide +kernel
theorem dX12_rings_170 : decode cX12_rings 170 = .ok (.iconst 1, 1) := by decide +kernel
theorem dX12_rings_171 : decode cX12_rings 171 = .ok (.istore 5, 2) := by decide +kernel
theorem dX12_rings_173 : decode cX12_rings 173 = .ok (.iload 5, 2) := by decide +kernel
theorem dX12_rings_175 : decode cX12_rings 175 = .ok (.ifCond .eq 13, 3) := by decide +kernel
theorem dX12_rings_178 : decode cX12_rings 178 = .ok (.aload_n 0, 1) := by decide +kernel
theorem dX12_rings_179 : decode cX12_rings 179 = .ok (.iload_n 2, 1) := by decide +kernel
theorem dX12_rings_180 : decode cX12_rings 180 = .ok (.invokevirtual 279, 3) := by decide +kernel
theorem dX12_rings_183 : decode cX12_rings 183 = .ok (.istore 5, 2) := by decide +kernel
theorem dX12_rings_185 : decode cX12_rings 185 = .ok (.goto (-12), 3) := by decide +kernel
theorem dX12_rings_188 : decode cX12_rings 188 = .ok (.aload_n 0, 1) := by decide +kernel
theorem dX12_rings_189 : decode cX12_rings 189 = .ok (.getfield 37, 3) := by decide +kernel
theorem dX12_rings_192 : decode cX12_rings 192 = .ok (.iload_n 3, 1) := by decide +kernel
theorem dX12_rings_193 : decode cX12_rings 193 = .ok (.iaload, 1) := by decide +kernel
theorem dX12_rings_194 : decode cX12_rings 194 = .ok (.ireturn, 1) := by decide +kernel
theorem dX12_nextIn_0 : decode cX12_nextIn 0 = .ok (.ldc 89, 2) := by decide +kernel
theorem dX12_nextIn_2 : decode cX12_nextIn 2 = .ok (.istore_n 2, 1) := by decide +kernel
theorem dX12_nextIn_3 : decode cX12_nextIn 3 = .ok (.iconst 0, 1) := by decide +kernel
theorem dX12_nextIn_4 : decode cX12_nextIn 4 = .ok (.istore_n 3, 1) := by decide +kernel
theorem dX12_nextIn_5 : decode cX12_nextIn 5 = .ok (.iload_n 3, 1) := by decide +kernel
theorem dX12_nextIn_6 : decode cX12_nextIn 6 = .ok (.aload_n 0, 1) := by decide +kernel
theorem dX12_nextIn_7 : decode cX12_nextIn 7 = .ok (.getfield 19, 3) := by decide +kernel
theorem dX12_nextIn_10 : decode cX12_nextIn 10 = .ok (.iconst 2, 1) := by decide +kernel
theorem dX12_nextIn_11 : decode cX12_nextIn 11 = .ok (.iaload, 1) := by decide +kernel
theorem dX12_nextIn_12 : decode cX12_nextIn 12 = .ok (.if_icmp .ge 67, 3) := by decide +kernel
theorem dX12_nextIn_15 : decode cX12_nextIn 15 = .ok (.aload_n 0, 1) := by decide +kernel
theorem dX12_nextIn_16 : decode cX12_nextIn 16 = .ok (.iload_n 3, 1) := by decide +kernel
theorem dX12_nextIn_17 : decode cX12_nextIn 17 = .ok (.iconst 4, 1) := by decide +kernel
theorem dX12_nextIn_18 : decode cX12_nextIn 18 = .ok (.invokevirtual 202, 3) := by decide +kernel
theorem dX12_nextIn_21 : decode cX12_nextIn 21 = .ok (.ldc 89, 2) := by decide +kernel
theorem dX12_nextIn_23 : decode cX12_nextIn 23 = .ok (.if_icmp .eq 15, 3) := by decide +kernel
theorem dX12_nextIn_26 : decode cX12_nextIn 26 = .ok (.iload_n 1, 1) := by decide +kernel
theorem dX12_nextIn_27 : decode cX12_nextIn 27 = .ok (.iload_n 3, 1) := by decide +kernel
theorem dX12_nextIn_28 : decode cX12_nextIn 28 = .ok (.ishr, 1) := by decide +kernel
theorem dX12_nextIn_29 : decode cX12_nextIn 29 = .ok (.iconst 1, 1) := by decide +kernel
theorem dX12_nextIn_30 : decode cX12_nextIn 30 = .ok (.iand, 1) := by decide +kernel
theorem dX12_nextIn_31 : decode cX12_nextIn 31 = .ok (.ifCond .ne 7, 3) := by decide +kernel
theorem dX12_nextIn_34 : decode cX12_nextIn 34 = .ok (.iconst 1, 1) := by decide +kernel
theorem dX12_nextIn_35 : decode cX12_nextIn 35 = .ok (.goto 4, 3) := by decide +kernel
theorem dX12_nextIn_38 : decode cX12_nextIn 38 = .ok (.iconst 0, 1) := by decide +kernel
theorem dX12_nextIn_39 : decode cX12_nextIn 39 = .ok (.istore 4, 2) := by decide +kernel
theorem dX12_nextIn_41 : decode cX12_nextIn 41 = .ok (.iload 4, 2) := by decide +kernel
theorem dX12_nextIn_43 : decode cX12_nextIn 43 = .ok (.ifCond .eq 28, 3) := by decide +kernel
theorem dX12_nextIn_46 : decode cX12_nextIn 46 = .ok (.iload_n 2, 1) := by decide +kernel
theorem dX12_nextIn_47 : decode cX12_nextIn 47 = .ok (.ldc 89, 2) := by decide +kernel
theorem dX12_nextIn_49 : decode cX12_nextIn 49 = .ok (.if_icmp .eq 18, 3) := by decide +kernel
theorem dX12_nextIn_52 : decode cX12_nextIn 52 = .ok (.aload_n 0, 1) := by decide +kernel
theorem dX12_nextIn_53 : decode cX12_nextIn 53 = .ok (.iload_n 3, 1) := by decide +kernel
theorem dX12_nextIn_54 : decode cX12_nextIn 54 = .ok (.iconst 3, 1) := by decide +kernel
theorem dX12_nextIn_55 : decode cX12_nextIn 55 = .ok (.invokevirtual 202, 3) := by decide +kernel
theorem dX12_nextIn_58 : decode cX12_nextIn 58 = .ok (.aload_n 0, 1) := by decide +kernel
theorem dX12_nextIn_59 : decode cX12_nextIn 59 = .ok (.iload_n 2, 1) := by decide +kernel
theorem dX12_nextIn_60 : decode cX12_nextIn 60 = .ok (.iconst 3, 1) := by decide +kernel
theorem dX12_nextIn_61 : decode cX12_nextIn 61 = .ok (.invokevirtual 202, 3) := by decide +kernel
theorem dX12_nextIn_64 : decode cX12_nextIn 64 = .ok (.if_icmp .le 7, 3) := by decide +kernel
theorem dX12_nextIn_67 : decode cX12_nextIn 67 = .ok (.iload_n 3, 1) := by decide +kernel
theorem dX12_nextIn_68 : decode cX12_nextIn 68 = .ok (.goto 4, 3) := by decide +kernel
theorem dX12_nextIn_71 : decode cX12_nextIn 71 = .ok (.iload_n 2, 1) := by decide +kernel
theorem dX12_nextIn_72 : decode cX12_nextIn 72 = .ok (.istore_n 2, 1) := by decide +kernel
theorem dX12_nextIn_73 : decode cX12_nextIn 73 = .ok (.iinc 3 1, 3) := by decide +kernel
theorem dX12_nextIn_76 : decode cX12_nextIn 76 = .ok (.goto (-71), 3) := by decide +kernel
theorem dX12_nextIn_79 : decode cX12_nextIn 79 = .ok (.iload_n 2, 1) := by decide +kernel
theorem dX12_nextIn_80 : decode cX12_nextIn 80 = .ok (.ireturn, 1) := by decide +kernel
theorem dX12_rain_0 : decode cX12_rain 0 = .ok (.aload_n 0, 1) := by decide +kernel
theorem dX12_rain_1 : decode cX12_rain 1 = .ok (.iconst 0, 1) := by decide +kernel
theorem dX12_rain_2 : decode cX12_rain 2 = .ok (.putfield 53, 3) := by decide +kernel
theorem dX12_rain_5 : decode cX12_rain 5 = .ok (.aload_n 0, 1) := by decide +kernel
theorem dX12_rain_6 : decode cX12_rain 6 = .ok (.getfield 192, 3) := by decide +kernel
theorem dX12_rain_9 : decode cX12_rain 9 = .ok (.ifCond .ne 6, 3) := by decide +kernel
theorem dX12_rain_12 : decode cX12_rain 12 = .ok (.ldc 208, 2) := by decide +kernel
theorem dX12_rain_14 : decode cX12_rain 14 = .ok (.ireturn, 1) := by decide +kernel
theorem dX12_rain_15 : decode cX12_rain 15 = .ok (.iload_n 1, 1) := by decide +kernel
theorem dX12_rain_16 : decode cX12_rain 16 = .ok (.i2l, 1) := by decide +kernel
theorem dX12_rain_17 : decode cX12_rain 17 = .ok (.lconst 0, 1) := by decide +kernel
theorem dX12_rain_18 : decode cX12_rain 18 = .ok (.ldc2_w 282, 3) := by decide +kernel
theorem dX12_rain_21 : decode cX12_rain 21 = .ok (.invokestatic 63, 3) := by decide +kernel
theorem dX12_rain_24 : decode cX12_rain 24 = .ok (.ifCond .eq 13, 3) := by decide +kernel
theorem dX12_rain_27 : decode cX12_rain 27 = .ok (.iload_n 2, 1) := by decide +kernel
theorem dX12_rain_28 : decode cX12_rain 28 = .ok (.i2l, 1) := by decide +kernel
theorem dX12_rain_29 : decode cX12_rain 29 = .ok (.lconst 0, 1) := by decide +kernel
theorem dX12_rain_30 : decode cX12_rain 30 = .ok (.lconst 1, 1) := by decide +kernel
theorem dX12_rain_31 : decode cX12_rain 31 = .ok (.invokestatic 63, 3) := by decide +kernel
theorem dX12_rain_34 : decode cX12_rain 34 = .ok (.ifCond .ne 6, 3) := by decide +kernel
theorem dX12_rain_37 : decode cX12_rain 37 = .ok (.ldc 73, 2) := by decide +kernel
theorem dX12_rain_39 : decode cX12_rain 39 = .ok (.ireturn, 1) := by decide +kernel
theorem dX12_rain_40 : decode cX12_rain 40 = .ok (.iload_n 2, 1) := by decide +kernel
theorem dX12_rain_41 : decode cX12_rain 41 = .ok (.iconst 1, 1) := by decide +kernel
theorem dX12_rain_42 : decode cX12_rain 42 = .ok (.if_icmp .ne 9, 3) := by decide +kernel
theorem dX12_rain_45 : decode cX12_rain 45 = .ok (.aload_n 0, 1) := by decide +kernel
theorem dX12_rain_46 : decode cX12_rain 46 = .ok (.iconst 0, 1) := by decide +kernel
theorem dX12_rain_47 : decode cX12_rain 47 = .ok (.invokevirtual 284, 3) := by decide +kernel
theorem dX12_rain_50 : decode cX12_rain 50 = .ok (.ireturn, 1) := by decide +kernel
theorem dX12_rain_51 : decode cX12_rain 51 = .ok (.iconst 0, 1) := by decide +kernel
theorem dX12_rain_52 : decode cX12_rain 52 = .ok (.istore_n 3, 1) := by decide +kernel
theorem dX12_rain_53 : decode cX12_rain 53 = .ok (.iconst 0, 1) := by decide +kernel
theorem dX12_rain_54 : decode cX12_rain 54 = .ok (.istore 4, 2) := by decide +kernel
theorem dX12_rain_56 : decode cX12_rain 56 = .ok (.ldc_w 287, 3) := by decide +kernel
theorem dX12_rain_59 : decode cX12_rain 59 = .ok (.istore 5, 2) := by decide +kernel
theorem dX12_rain_61 : decode cX12_rain 61 = .ok (.aload_n 0, 1) := by decide +kernel
theorem dX12_rain_62 : decode cX12_rain 62 = .ok (.iconst 0, 1) := by decide +kernel
theorem dX12_rain_63 : decode cX12_rain 63 = .ok (.invokevirtual 284, 3) := by decide +kernel
theorem dX12_rain_66 : decode cX12_rain 66 = .ok (.istore 6, 2) := by decide +kernel
theorem dX12_rain_68 : decode cX12_rain 68 = .ok (.iload 6, 2) := by decide +kernel
theorem dX12_rain_70 : decode cX12_rain 70 = .ok (.ldc 89, 2) := by decide +kernel
theorem dX12_rain_72 : decode cX12_rain 72 = .ok (.if_icmp .eq 51, 3) := by decide +kernel
theorem dX12_rain_75 : decode cX12_rain 75 = .ok (.iload 4, 2) := by decide +kernel
theorem dX12_rain_77 : decode cX12_rain 77 = .ok (.aload_n 0, 1) := by decide +kernel
theorem dX12_rain_78 : decode cX12_rain 78 = .ok (.iload 6, 2) := by decide +kernel
theorem dX12_rain_80 : decode cX12_rain 80 = .ok (.iconst 3, 1) := by decide +kernel
theorem dX12_rain_81 : decode cX12_rain 81 = .ok (.invokevirtual 202, 3) := by decide +kernel
theorem dX12_rain_84 : decode cX12_rain 84 = .ok (.ldc_w 287, 3) := by decide +kernel
theorem dX12_rain_87 : decode cX12_rain 87 = .ok (.iload 5, 2) := by decide +kernel
theorem dX12_rain_89 : decode cX12_rain 89 = .ok (.isub, 1) := by decide +kernel
theorem dX12_rain_90 : decode cX12_rain 90 = .ok (.imul, 1) := by decide +kernel
theorem dX12_rain_91 : decode cX12_rain 91 = .ok (.iadd, 1) := by decide +kernel
theorem dX12_rain_92 : decode cX12_rain 92 = .ok (.istore 4, 2) := by decide +kernel
theorem dX12_rain_94 : decode cX12_rain 94 = .ok (.iload 5, 2) := by decide +kernel
theorem dX12_rain_96 : decode cX12_rain 96 = .ok (.bipush 100, 2) := by decide +kernel
theorem dX12_rain_98 : decode cX12_rain 98 = .ok (.iload_n 1, 1) := by decide +kernel
theorem dX12_rain_99 : decode cX12_rain 99 = .ok (.isub, 1) := by decide +kernel
theorem dX12_rain_100 : decode cX12_rain 100 = .ok (.imul, 1) := by decide +kernel
theorem dX12_rain_101 : decode cX12_rain 101 = .ok (.bipush 100, 2) := by decide +kernel
theorem dX12_rain_103 : decode cX12_rain 103 = .ok (.idiv, 1) := by decide +kernel
theorem dX12_rain_104 : decode cX12_rain 104 = .ok (.istore 5, 2) := by decide +kernel
theorem dX12_rain_106 : decode cX12_rain 106 = .ok (.iload_n 3, 1) := by decide +kernel
theorem dX12_rain_107 : decode cX12_rain 107 = .ok (.iconst 1, 1) := by decide +kernel
theorem dX12_rain_108 : decode cX12_rain 108 = .ok (.iload 6, 2) := by decide +kernel
theorem dX12_rain_110 : decode cX12_rain 110 = .ok (.ishl, 1) := by decide +kernel
theorem dX12_rain_111 : decode cX12_rain 111 = .ok (.ior, 1) := by decide +kernel
theorem dX12_rain_112 : decode cX12_rain 112 = .ok (.istore_n 3, 1) := by decide +kernel
theorem dX12_rain_113 : decode cX12_rain 113 = .ok (.aload_n 0, 1) := by decide +kernel
theorem dX12_rain_114 : decode cX12_rain 114 = .ok (.iload_n 3, 1) := by decide +kernel
theorem dX12_rain_115 : decode cX12_rain 115 = .ok (.invokevirtual 284, 3) := by decide +kernel
theorem dX12_rain_118 : decode cX12_rain 118 = .ok (.istore 6, 2) := by decide +kernel
theorem dX12_rain_120 : decode cX12_rain 120 = .ok (.goto (-52), 3) := by decide +kernel
theorem dX12_rain_123 : decode cX12_rain 123 = .ok (.iload 4, 2) := by decide +kernel
theorem dX12_rain_125 : decode cX12_rain 125 = .ok (.ireturn, 1) := by decide +kernel
theorem dX12_image_0 : decode cX12_image 0 = .ok (.aload_n 0, 1) := by decide +kernel
theorem dX12_image_1 : decode cX12_image 1 = .ok (.iconst 0, 1) := by decide +kernel
theorem dX12_image_2 : decode cX12_image 2 = .ok (.putfield 53, 3) := by decide +kernel
theorem dX12_image_5 : decode cX12_image 5 = .ok (.iload_n 1, 1) := by decide +kernel
theorem dX12_image_6 : decode cX12_image 6 = .ok (.i2l, 1) := by decide +kernel
theorem dX12_image_7 : decode cX12_image 7 = .ok (.lconst 0, 1) := by decide +kernel
theorem dX12_image_8 : decode cX12_image 8 = .ok (.lconst 1, 1) := by decide +kernel
theorem dX12_image_9 : decode cX12_image 9 = .ok (.invokestatic 63, 3) := by decide +kernel
theorem dX12_image_12 : decode cX12_image 12 = .ok (.ifCond .ne 6, 3) := by decide +kernel
theorem dX12_image_15 : decode cX12_image 15 = .ok (.ldc 73, 2) := by decide +kernel
theorem dX12_image_17 : decode cX12_image 17 = .ok (.ireturn, 1) := by decide +kernel
theorem dX12_image_18 : decode cX12_image 18 = .ok (.aload_n 0, 1) := by decide +kernel
theorem dX12_image_19 : decode cX12_image 19 = .ok (.getfield 192, 3) := by decide +kernel
theorem dX12_image_22 : decode cX12_image 22 = .ok (.ifCond .ne 6, 3) := by decide +kernel
theorem dX12_image_25 : decode cX12_image 25 = .ok (.ldc 208, 2) := by decide +kernel
theorem dX12_image_27 : decode cX12_image 27 = .ok (.ireturn, 1) := by decide +kernel
theorem dX12_image_28 : decode cX12_image 28 = .ok (.iconst 0, 1) := by decide +kernel
theorem dX12_image_29 : decode cX12_image 29 = .ok (.istore_n 2, 1) := by decide +kernel
theorem dX12_image_30 : decode cX12_image 30 = .ok (.iload_n 2, 1) := by decide +kernel
theorem dX12_image_31 : decode cX12_image 31 = .ok (.sipush 144, 3) := by decide +kernel
theorem dX12_image_34 : decode cX12_image 34 = .ok (.if_icmp .ge 27, 3) := by decide +kernel
theorem dX12_image_37 : decode cX12_image 37 = .ok (.aload_n 0, 1) := by decide +kernel
theorem dX12_image_38 : decode cX12_image 38 = .ok (.getfield 47, 3) := by decide +kernel
theorem dX12_image_41 : decode cX12_image 41 = .ok (.sipush 144, 3) := by decide +kernel
theorem dX12_image_44 : decode cX12_image 44 = .ok (.iload_n 1, 1) := by decide +kernel
theorem dX12_image_45 : decode cX12_image 45 = .ok (.imul, 1) := by decide +kernel
theorem dX12_image_46 : decode cX12_image 46 = .ok (.iload_n 2, 1) := by decide +kernel
theorem dX12_image_47 : decode cX12_image 47 = .ok (.iadd, 1) := by decide +kernel
theorem dX12_image_48 : decode cX12_image 48 = .ok (.aload_n 0, 1) := by decide +kernel
theorem dX12_image_49 : decode cX12_image 49 = .ok (.getfield 19, 3) := by decide +kernel
theorem dX12_image_52 : decode cX12_image 52 = .ok (.iload_n 2, 1) := by decide +kernel
theorem dX12_image_53 : decode cX12_image 53 = .ok (.iaload, 1) := by decide +kernel
theorem dX12_image_54 : decode cX12_image 54 = .ok (.iastore, 1) := by decide +kernel
theorem dX12_image_55 : decode cX12_image 55 = .ok (.iinc 2 1, 3) := by decide +kernel
theorem dX12_image_58 : decode cX12_image 58 = .ok (.goto (-28), 3) := by decide +kernel
theorem dX12_image_61 : decode cX12_image 61 = .ok (.aload_n 0, 1) := by decide +kernel
theorem dX12_image_62 : decode cX12_image 62 = .ok (.getfield 43, 3) := by decide +kernel
theorem dX12_image_65 : decode cX12_image 65 = .ok (.iload_n 1, 1) := by decide +kernel
theorem dX12_image_66 : decode cX12_image 66 = .ok (.iconst 1, 1) := by decide +kernel
theorem dX12_image_67 : decode cX12_image 67 = .ok (.bastore, 1) := by decide +kernel
theorem dX12_image_68 : decode cX12_image 68 = .ok (.iconst 1, 1) := by decide +kernel
theorem dX12_image_69 : decode cX12_image 69 = .ok (.ireturn, 1) := by decide +kernel
theorem dX12_restore_0 : decode cX12_restore 0 = .ok (.aload_n 0, 1) := by decide +kernel
theorem dX12_restore_1 : decode cX12_restore 1 = .ok (.iconst 0, 1) := by decide +kernel
theorem dX12_restore_2 : decode cX12_restore 2 = .ok (.putfield 53, 3) := by decide +kernel
theorem dX12_restore_5 : decode cX12_restore 5 = .ok (.iload_n 1, 1) := by decide +kernel
theorem dX12_restore_6 : decode cX12_restore 6 = .ok (.i2l, 1) := by decide +kernel
theorem dX12_restore_7 : decode cX12_restore 7 = .ok (.lconst 0, 1) := by decide +kernel
theorem dX12_restore_8 : decode cX12_restore 8 = .ok (.lconst 1, 1) := by decide +kernel
theorem dX12_restore_9 : decode cX12_restore 9 = .ok (.invokestatic 63, 3) := by decide +kernel
theorem dX12_restore_12 : decode cX12_restore 12 = .ok (.ifCond .ne 6, 3) := by decide +kernel
theorem dX12_restore_15 : decode cX12_restore 15 = .ok (.ldc 73, 2) := by decide +kernel
theorem dX12_restore_17 : decode cX12_restore 17 = .ok (.ireturn, 1) := by decide +kernel
theorem dX12_restore_18 : decode cX12_restore 18 = .ok (.aload_n 0, 1) := by decide +kernel
theorem dX12_restore_19 : decode cX12_restore 19 = .ok (.getfield 43, 3) := by decide +kernel
theorem dX12_restore_22 : decode cX12_restore 22 = .ok (.iload_n 1, 1) := by decide +kernel
theorem dX12_restore_23 : decode cX12_restore 23 = .ok (.baload, 1) := by decide +kernel
theorem dX12_restore_24 : decode cX12_restore 24 = .ok (.ifCond .ne 6, 3) := by decide +kernel
theorem dX12_restore_27 : decode cX12_restore 27 = .ok (.ldc 208, 2) := by decide +kernel
theorem dX12_restore_29 : decode cX12_restore 29 = .ok (.ireturn, 1) := by decide +kernel
theorem dX12_restore_30 : decode cX12_restore 30 = .ok (.iconst 0, 1) := by decide +kernel
theorem dX12_restore_31 : decode cX12_restore 31 = .ok (.istore_n 2, 1) := by decide +kernel
theorem dX12_restore_32 : decode cX12_restore 32 = .ok (.iload_n 2, 1) := by decide +kernel
theorem dX12_restore_33 : decode cX12_restore 33 = .ok (.sipush 144, 3) := by decide +kernel
theorem dX12_restore_36 : decode cX12_restore 36 = .ok (.if_icmp .ge 27, 3) := by decide +kernel
theorem dX12_restore_39 : decode cX12_restore 39 = .ok (.aload_n 0, 1) := by decide +kernel
theorem dX12_restore_40 : decode cX12_restore 40 = .ok (.getfield 19, 3) := by decide +kernel
theorem dX12_restore_43 : decode cX12_restore 43 = .ok (.iload_n 2, 1) := by decide +kernel
theorem dX12_restore_44 : decode cX12_restore 44 = .ok (.aload_n 0, 1) := by decide +kernel
theorem dX12_restore_45 : decode cX12_restore 45 = .ok (.getfield 47, 3) := by decide +kernel
theorem dX12_restore_48 : decode cX12_restore 48 = .ok (.sipush 144, 3) := by decide +kernel
theorem dX12_restore_51 : decode cX12_restore 51 = .ok (.iload_n 1, 1) := by decide +kernel
theorem dX12_restore_52 : decode cX12_restore 52 = .ok (.imul, 1) := by decide +kernel
theorem dX12_restore_53 : decode cX12_restore 53 = .ok (.iload_n 2, 1) := by decide +kernel
theorem dX12_restore_54 : decode cX12_restore 54 = .ok (.iadd, 1) := by decide +kernel
theorem dX12_restore_55 : decode cX12_restore 55 = .ok (.iaload, 1) := by decide +kernel
theorem dX12_restore_56 : decode cX12_restore 56 = .ok (.iastore, 1) := by decide +kernel
theorem dX12_restore_57 : decode cX12_restore 57 = .ok (.iinc 2 1, 3) := by decide +kernel
theorem dX12_restore_60 : decode cX12_restore 60 = .ok (.goto (-28), 3) := by decide +kernel
theorem dX12_restore_63 : decode cX12_restore 63 = .ok (.iconst 1, 1) := by decide +kernel
theorem dX12_restore_64 : decode cX12_restore 64 = .ok (.ireturn, 1) := by decide +kernel
theorem dX12_isOf_0 : decode cX12_isOf 0 = .ok (.iload_n 1, 1) := by decide +kernel
theorem dX12_isOf_1 : decode cX12_isOf 1 = .ok (.ifCond .eq 28, 3) := by decide +kernel
theorem dX12_isOf_4 : decode cX12_isOf 4 = .ok (.iload_n 0, 1) := by decide +kernel
theorem dX12_isOf_5 : decode cX12_isOf 5 = .ok (.iload_n 1, 1) := by decide +kernel
theorem dX12_isOf_6 : decode cX12_isOf 6 = .ok (.if_icmp .eq 23, 3) := by decide +kernel
theorem dX12_isOf_9 : decode cX12_isOf 9 = .ok (.iload_n 1, 1) := by decide +kernel
theorem dX12_isOf_10 : decode cX12_isOf 10 = .ok (.iconst 1, 1) := by decide +kernel
theorem dX12_isOf_11 : decode cX12_isOf 11 = .ok (.if_icmp .ne 8, 3) := by decide +kernel
theorem dX12_isOf_14 : decode cX12_isOf 14 = .ok (.iload_n 0, 1) := by decide +kernel
theorem dX12_isOf_15 : decode cX12_isOf 15 = .ok (.iconst 2, 1) := by decide +kernel
theorem dX12_isOf_16 : decode cX12_isOf 16 = .ok (.if_icmp .eq 13, 3) := by decide +kernel
theorem dX12_isOf_19 : decode cX12_isOf 19 = .ok (.iload_n 1, 1) := by decide +kernel
theorem dX12_isOf_20 : decode cX12_isOf 20 = .ok (.iconst 3, 1) := by decide +kernel
theorem dX12_isOf_21 : decode cX12_isOf 21 = .ok (.if_icmp .ne 12, 3) := by decide +kernel
theorem dX12_isOf_24 : decode cX12_isOf 24 = .ok (.iload_n 0, 1) := by decide +kernel
theorem dX12_isOf_25 : decode cX12_isOf 25 = .ok (.iconst 5, 1) := by decide +kernel
theorem dX12_isOf_26 : decode cX12_isOf 26 = .ok (.if_icmp .ne 7, 3) := by decide +kernel
theorem dX12_isOf_29 : decode cX12_isOf 29 = .ok (.iconst 1, 1) := by decide +kernel
theorem dX12_isOf_30 : decode cX12_isOf 30 = .ok (.goto 4, 3) := by decide +kernel
theorem dX12_isOf_33 : decode cX12_isOf 33 = .ok (.iconst 0, 1) := by decide +kernel
theorem dX12_isOf_34 : decode cX12_isOf 34 = .ok (.ireturn, 1) := by decide +kernel
theorem dX12_kind_0 : decode cX12_kind 0 = .ok (.aload_n 0, 1) := by decide +kernel
theorem dX12_kind_1 : decode cX12_kind 1 = .ok (.iconst 0, 1) := by decide +kernel
theorem dX12_kind_2 : decode cX12_kind 2 = .ok (.putfield 53, 3) := by decide +kernel
theorem dX12_kind_5 : decode cX12_kind 5 = .ok (.aload_n 0, 1) := by decide +kernel
theorem dX12_kind_6 : decode cX12_kind 6 = .ok (.iload_n 1, 1) := by decide +kernel
theorem dX12_kind_7 : decode cX12_kind 7 = .ok (.invokevirtual 215, 3) := by decide +kernel
theorem dX12_kind_10 : decode cX12_kind 10 = .ok (.ifCond .eq 12, 3) := by decide +kernel
theorem dX12_kind_13 : decode cX12_kind 13 = .ok (.aload_n 0, 1) := by decide +kernel
theorem dX12_kind_14 : decode cX12_kind 14 = .ok (.iload_n 1, 1) := by decide +kernel
theorem dX12_kind_15 : decode cX12_kind 15 = .ok (.iconst 0, 1) := by decide +kernel
theorem dX12_kind_16 : decode cX12_kind 16 = .ok (.invokevirtual 202, 3) := by decide +kernel
theorem dX12_kind_19 : decode cX12_kind 19 = .ok (.goto 5, 3) := by decide +kernel
theorem dX12_kind_22 : decode cX12_kind 22 = .ok (.ldc 73, 2) := by decide +kernel
theorem dX12_kind_24 : decode cX12_kind 24 = .ok (.ireturn, 1) := by decide +kernel
theorem dX12_as_0 : decode cX12_as 0 = .ok (.aload_n 0, 1) := by decide +kernel
theorem dX12_as_1 : decode cX12_as 1 = .ok (.iconst 0, 1) := by decide +kernel
theorem dX12_as_2 : decode cX12_as 2 = .ok (.putfield 53, 3) := by decide +kernel
theorem dX12_as_5 : decode cX12_as 5 = .ok (.aload_n 0, 1) := by decide +kernel
theorem dX12_as_6 : decode cX12_as 6 = .ok (.iload_n 1, 1) := by decide +kernel
theorem dX12_as_7 : decode cX12_as 7 = .ok (.invokevirtual 215, 3) := by decide +kernel
theorem dX12_as_10 : decode cX12_as 10 = .ok (.ifCond .eq 15, 3) := by decide +kernel
theorem dX12_as_13 : decode cX12_as 13 = .ok (.iload_n 2, 1) := by decide +kernel
theorem dX12_as_14 : decode cX12_as 14 = .ok (.i2l, 1) := by decide +kernel
theorem dX12_as_15 : decode cX12_as 15 = .ok (.lconst 0, 1) := by decide +kernel
theorem dX12_as_16 : decode cX12_as 16 = .ok (.ldc2_w 252, 3) := by decide +kernel
theorem dX12_as_19 : decode cX12_as 19 = .ok (.invokestatic 63, 3) := by decide +kernel
theorem dX12_as_22 : decode cX12_as 22 = .ok (.ifCond .ne 6, 3) := by decide +kernel
theorem dX12_as_25 : decode cX12_as 25 = .ok (.ldc 73, 2) := by decide +kernel
theorem dX12_as_27 : decode cX12_as 27 = .ok (.ireturn, 1) := by decide +kernel
theorem dX12_as_28 : decode cX12_as 28 = .ok (.aload_n 0, 1) := by decide +kernel
theorem dX12_as_29 : decode cX12_as 29 = .ok (.iconst 0, 1) := by decide +kernel
theorem dX12_as_30 : decode cX12_as 30 = .ok (.putfield 57, 3) := by decide +kernel
theorem dX12_as_33 : decode cX12_as 33 = .ok (.aload_n 0, 1) := by decide +kernel
theorem dX12_as_34 : decode cX12_as 34 = .ok (.iload_n 1, 1) := by decide +kernel
theorem dX12_as_35 : decode cX12_as 35 = .ok (.iconst 0, 1) := by decide +kernel
theorem dX12_as_36 : decode cX12_as 36 = .ok (.invokevirtual 202, 3) := by decide +kernel
theorem dX12_as_39 : decode cX12_as 39 = .ok (.iload_n 2, 1) := by decide +kernel
theorem dX12_as_40 : decode cX12_as 40 = .ok (.invokestatic 288, 3) := by decide +kernel
theorem dX12_as_43 : decode cX12_as 43 = .ok (.ifCond .eq 7, 3) := by decide +kernel
theorem dX12_as_46 : decode cX12_as 46 = .ok (.iload_n 1, 1) := by decide +kernel
theorem dX12_as_47 : decode cX12_as 47 = .ok (.goto 8, 3) := by decide +kernel
theorem dX12_as_50 : decode cX12_as 50 = .ok (.aload_n 0, 1) := by decide +kernel
theorem dX12_as_51 : decode cX12_as 51 = .ok (.iconst 3, 1) := by decide +kernel
theorem dX12_as_52 : decode cX12_as 52 = .ok (.invokevirtual 74, 3) := by decide +kernel
theorem dX12_as_55 : decode cX12_as 55 = .ok (.ireturn, 1) := by decide +kernel
theorem dX12_began_0 : decode cX12_began 0 = .ok (.aload_n 0, 1) := by decide +kernel
theorem dX12_began_1 : decode cX12_began 1 = .ok (.getfield 291, 3) := by decide +kernel
theorem dX12_began_4 : decode cX12_began 4 = .ok (.bipush 16, 2) := by decide +kernel
theorem dX12_began_6 : decode cX12_began 6 = .ok (.if_icmp .ge 23, 3) := by decide +kernel
theorem dX12_began_9 : decode cX12_began 9 = .ok (.aload_n 0, 1) := by decide +kernel
theorem dX12_began_10 : decode cX12_began 10 = .ok (.getfield 50, 3) := by decide +kernel
theorem dX12_began_13 : decode cX12_began 13 = .ok (.aload_n 0, 1) := by decide +kernel
theorem dX12_began_14 : decode cX12_began 14 = .ok (.getfield 291, 3) := by decide +kernel
theorem dX12_began_17 : decode cX12_began 17 = .ok (.iload_n 1, 1) := by decide +kernel
theorem dX12_began_18 : decode cX12_began 18 = .ok (.iastore, 1) := by decide +kernel
theorem dX12_began_19 : decode cX12_began 19 = .ok (.aload_n 0, 1) := by decide +kernel
theorem dX12_began_20 : decode cX12_began 20 = .ok (.dup, 1) := by decide +kernel
theorem dX12_began_21 : decode cX12_began 21 = .ok (.getfield 291, 3) := by decide +kernel
theorem dX12_began_24 : decode cX12_began 24 = .ok (.iconst 1, 1) := by decide +kernel
theorem dX12_began_25 : decode cX12_began 25 = .ok (.iadd, 1) := by decide +kernel
theorem dX12_began_26 : decode cX12_began 26 = .ok (.putfield 291, 3) := by decide +kernel
theorem dX12_began_29 : decode cX12_began 29 = .ok (.return_, 1) := by decide +kernel
theorem dX12_redMark_0 : decode cX12_redMark 0 = .ok (.aload_n 0, 1) := by decide +kernel
theorem dX12_redMark_1 : decode cX12_redMark 1 = .ok (.iload_n 1, 1) := by decide +kernel
theorem dX12_redMark_2 : decode cX12_redMark 2 = .ok (.iconst 0, 1) := by decide +kernel
theorem dX12_redMark_3 : decode cX12_redMark 3 = .ok (.invokevirtual 202, 3) := by decide +kernel
theorem dX12_redMark_6 : decode cX12_redMark 6 = .ok (.iconst 2, 1) := by decide +kernel
theorem dX12_redMark_7 : decode cX12_redMark 7 = .ok (.if_icmp .ne 9, 3) := by decide +kernel
theorem dX12_redMark_10 : decode cX12_redMark 10 = .ok (.aload_n 0, 1) := by decide +kernel
theorem dX12_redMark_11 : decode cX12_redMark 11 = .ok (.bipush 24, 2) := by decide +kernel
theorem dX12_redMark_13 : decode cX12_redMark 13 = .ok (.invokevirtual 294, 3) := by decide +kernel
theorem dX12_redMark_16 : decode cX12_redMark 16 = .ok (.aload_n 0, 1) := by decide +kernel
theorem dX12_redMark_17 : decode cX12_redMark 17 = .ok (.bipush 21, 2) := by decide +kernel
theorem dX12_redMark_19 : decode cX12_redMark 19 = .ok (.invokevirtual 294, 3) := by decide +kernel
theorem dX12_redMark_22 : decode cX12_redMark 22 = .ok (.aload_n 0, 1) := by decide +kernel
theorem dX12_redMark_23 : decode cX12_redMark 23 = .ok (.bipush 20, 2) := by decide +kernel
theorem dX12_redMark_25 : decode cX12_redMark 25 = .ok (.invokevirtual 294, 3) := by decide +kernel
theorem dX12_redMark_28 : decode cX12_redMark 28 = .ok (.iload_n 1, 1) := by decide +kernel
theorem dX12_redMark_29 : decode cX12_redMark 29 = .ok (.aload_n 0, 1) := by decide +kernel
theorem dX12_redMark_30 : decode cX12_redMark 30 = .ok (.iload_n 1, 1) := by decide +kernel
theorem dX12_redMark_31 : decode cX12_redMark 31 = .ok (.iconst 3, 1) := by decide +kernel
theorem dX12_redMark_32 : decode cX12_redMark 32 = .ok (.invokevirtual 202, 3) := by decide +kernel
theorem dX12_redMark_35 : decode cX12_redMark 35 = .ok (.iadd, 1) := by decide +kernel
theorem dX12_redMark_36 : decode cX12_redMark 36 = .ok (.istore_n 2, 1) := by decide +kernel
theorem dX12_redMark_37 : decode cX12_redMark 37 = .ok (.aload_n 0, 1) := by decide +kernel
theorem dX12_redMark_38 : decode cX12_redMark 38 = .ok (.iload_n 1, 1) := by decide +kernel
theorem dX12_redMark_39 : decode cX12_redMark 39 = .ok (.iconst 0, 1) := by decide +kernel
theorem dX12_redMark_40 : decode cX12_redMark 40 = .ok (.invokevirtual 202, 3) := by decide +kernel
theorem dX12_redMark_43 : decode cX12_redMark 43 = .ok (.iconst 2, 1) := by decide +kernel
theorem dX12_redMark_44 : decode cX12_redMark 44 = .ok (.if_icmp .ne 11, 3) := by decide +kernel
theorem dX12_redMark_47 : decode cX12_redMark 47 = .ok (.iload_n 2, 1) := by decide +kernel
theorem dX12_redMark_48 : decode cX12_redMark 48 = .ok (.sipush 1000, 3) := by decide +kernel
theorem dX12_redMark_51 : decode cX12_redMark 51 = .ok (.iadd, 1) := by decide +kernel
theorem dX12_redMark_52 : decode cX12_redMark 52 = .ok (.goto 4, 3) := by decide +kernel
theorem dX12_redMark_55 : decode cX12_redMark 55 = .ok (.iload_n 2, 1) := by decide +kernel
theorem dX12_redMark_56 : decode cX12_redMark 56 = .ok (.ireturn, 1) := by decide +kernel
theorem dX12_plainSize_0 : decode cX12_plainSize 0 = .ok (.aload_n 0, 1) := by decide +kernel
theorem dX12_plainSize_1 : decode cX12_plainSize 1 = .ok (.bipush 10, 2) := by decide +kernel
theorem dX12_plainSize_3 : decode cX12_plainSize 3 = .ok (.invokevirtual 294, 3) := by decide +kernel
theorem dX12_plainSize_6 : decode cX12_plainSize 6 = .ok (.aload_n 0, 1) := by decide +kernel
theorem dX12_plainSize_7 : decode cX12_plainSize 7 = .ok (.iload_n 1, 1) := by decide +kernel
theorem dX12_plainSize_8 : decode cX12_plainSize 8 = .ok (.iconst 2, 1) := by decide +kernel
theorem dX12_plainSize_9 : decode cX12_plainSize 9 = .ok (.invokevirtual 202, 3) := by decide +kernel
theorem dX12_plainSize_12 : decode cX12_plainSize 12 = .ok (.ireturn, 1) := by decide +kernel
theorem dX12_sizeOf_0 : decode cX12_sizeOf 0 = .ok (.aload_n 0, 1) := by decide +kernel
theorem dX12_sizeOf_1 : decode cX12_sizeOf 1 = .ok (.iload_n 1, 1) := by decide +kernel
theorem dX12_sizeOf_2 : decode cX12_sizeOf 2 = .ok (.iconst 0, 1) := by decide +kernel
theorem dX12_sizeOf_3 : decode cX12_sizeOf 3 = .ok (.invokevirtual 202, 3) := by decide +kernel
theorem dX12_sizeOf_6 : decode cX12_sizeOf 6 = .ok (.istore_n 2, 1) := by decide +kernel
theorem dX12_sizeOf_7 : decode cX12_sizeOf 7 = .ok (.iload_n 2, 1) := by decide +kernel
theorem dX12_sizeOf_8 : decode cX12_sizeOf 8 = .ok (.iconst 4, 1) := by decide +kernel
theorem dX12_sizeOf_9 : decode cX12_sizeOf 9 = .ok (.if_icmp .ne 9, 3) := by decide +kernel
theorem dX12_sizeOf_12 : decode cX12_sizeOf 12 = .ok (.aload_n 0, 1) := by decide +kernel
theorem dX12_sizeOf_13 : decode cX12_sizeOf 13 = .ok (.iload_n 1, 1) := by decide +kernel
theorem dX12_sizeOf_14 : decode cX12_sizeOf 14 = .ok (.invokevirtual 297, 3) := by decide +kernel
theorem dX12_sizeOf_17 : decode cX12_sizeOf 17 = .ok (.ireturn, 1) := by decide +kernel
theorem dX12_sizeOf_18 : decode cX12_sizeOf 18 = .ok (.iload_n 2, 1) := by decide +kernel
theorem dX12_sizeOf_19 : decode cX12_sizeOf 19 = .ok (.iconst 2, 1) := by decide +kernel
theorem dX12_sizeOf_20 : decode cX12_sizeOf 20 = .ok (.if_icmp .eq 8, 3) := by decide +kernel
theorem dX12_sizeOf_23 : decode cX12_sizeOf 23 = .ok (.iload_n 2, 1) := by decide +kernel
theorem dX12_sizeOf_24 : decode cX12_sizeOf 24 = .ok (.iconst 5, 1) := by decide +kernel
theorem dX12_sizeOf_25 : decode cX12_sizeOf 25 = .ok (.if_icmp .ne 19, 3) := by decide +kernel
theorem dX12_sizeOf_28 : decode cX12_sizeOf 28 = .ok (.aload_n 0, 1) := by decide +kernel
theorem dX12_sizeOf_29 : decode cX12_sizeOf 29 = .ok (.iload_n 2, 1) := by decide +kernel
theorem dX12_sizeOf_30 : decode cX12_sizeOf 30 = .ok (.iconst 2, 1) := by decide +kernel
theorem dX12_sizeOf_31 : decode cX12_sizeOf 31 = .ok (.if_icmp .ne 8, 3) := by decide +kernel
theorem dX12_sizeOf_34 : decode cX12_sizeOf 34 = .ok (.bipush 12, 2) := by decide +kernel
theorem dX12_sizeOf_36 : decode cX12_sizeOf 36 = .ok (.goto 5, 3) := by decide +kernel
theorem dX12_sizeOf_39 : decode cX12_sizeOf 39 = .ok (.bipush 14, 2) := by decide +kernel
theorem dX12_sizeOf_41 : decode cX12_sizeOf 41 = .ok (.invokevirtual 294, 3) := by decide +kernel
theorem dX12_sizeOf_44 : decode cX12_sizeOf 44 = .ok (.aload_n 0, 1) := by decide +kernel
theorem dX12_sizeOf_45 : decode cX12_sizeOf 45 = .ok (.aload_n 0, 1) := by decide +kernel
theorem dX12_sizeOf_46 : decode cX12_sizeOf 46 = .ok (.iload_n 1, 1) := by decide +kernel
theorem dX12_sizeOf_47 : decode cX12_sizeOf 47 = .ok (.invokevirtual 240, 3) := by decide +kernel
theorem dX12_sizeOf_50 : decode cX12_sizeOf 50 = .ok (.ifCond .eq 8, 3) := by decide +kernel
theorem dX12_sizeOf_53 : decode cX12_sizeOf 53 = .ok (.bipush 11, 2) := by decide +kernel
theorem dX12_sizeOf_55 : decode cX12_sizeOf 55 = .ok (.goto 5, 3) := by decide +kernel
theorem dX12_sizeOf_58 : decode cX12_sizeOf 58 = .ok (.bipush 13, 2) := by decide +kernel
theorem dX12_sizeOf_60 : decode cX12_sizeOf 60 = .ok (.invokevirtual 294, 3) := by decide +kernel
theorem dX12_sizeOf_63 : decode cX12_sizeOf 63 = .ok (.aload_n 0, 1) := by decide +kernel
theorem dX12_sizeOf_64 : decode cX12_sizeOf 64 = .ok (.iload_n 1, 1) := by decide +kernel
theorem dX12_sizeOf_65 : decode cX12_sizeOf 65 = .ok (.invokevirtual 297, 3) := by decide +kernel
theorem dX12_sizeOf_68 : decode cX12_sizeOf 68 = .ok (.istore_n 3, 1) := by decide +kernel
theorem dX12_sizeOf_69 : decode cX12_sizeOf 69 = .ok (.iload_n 3, 1) := by decide +kernel
theorem dX12_sizeOf_70 : decode cX12_sizeOf 70 = .ok (.aload_n 0, 1) := by decide +kernel
theorem dX12_sizeOf_71 : decode cX12_sizeOf 71 = .ok (.iload_n 1, 1) := by decide +kernel
theorem dX12_sizeOf_72 : decode cX12_sizeOf 72 = .ok (.invokevirtual 240, 3) := by decide +kernel
theorem dX12_sizeOf_75 : decode cX12_sizeOf 75 = .ok (.ifCond .eq 11, 3) := by decide +kernel
theorem dX12_sizeOf_78 : decode cX12_sizeOf 78 = .ok (.aload_n 0, 1) := by decide +kernel
theorem dX12_sizeOf_79 : decode cX12_sizeOf 79 = .ok (.iload_n 1, 1) := by decide +kernel
theorem dX12_sizeOf_80 : decode cX12_sizeOf 80 = .ok (.invokevirtual 300, 3) := by decide +kernel
theorem dX12_sizeOf_83 : decode cX12_sizeOf 83 = .ok (.goto 10, 3) := by decide +kernel
theorem dX12_sizeOf_86 : decode cX12_sizeOf 86 = .ok (.aload_n 0, 1) := by decide +kernel
theorem dX12_sizeOf_87 : decode cX12_sizeOf 87 = .ok (.iload_n 1, 1) := by decide +kernel
theorem dX12_sizeOf_88 : decode cX12_sizeOf 88 = .ok (.iconst 3, 1) := by decide +kernel
theorem dX12_sizeOf_89 : decode cX12_sizeOf 89 = .ok (.invokevirtual 202, 3) := by decide +kernel
theorem dX12_sizeOf_92 : decode cX12_sizeOf 92 = .ok (.ineg, 1) := by decide +kernel
theorem dX12_sizeOf_93 : decode cX12_sizeOf 93 = .ok (.iadd, 1) := by decide +kernel
theorem dX12_sizeOf_94 : decode cX12_sizeOf 94 = .ok (.istore_n 3, 1) := by decide +kernel
theorem dX12_sizeOf_95 : decode cX12_sizeOf 95 = .ok (.iload_n 2, 1) := by decide +kernel
theorem dX12_sizeOf_96 : decode cX12_sizeOf 96 = .ok (.iconst 2, 1) := by decide +kernel
theorem dX12_sizeOf_97 : decode cX12_sizeOf 97 = .ok (.if_icmp .ne 8, 3) := by decide +kernel
theorem dX12_sizeOf_100 : decode cX12_sizeOf 100 = .ok (.iload_n 3, 1) := by decide +kernel
theorem dX12_sizeOf_101 : decode cX12_sizeOf 101 = .ok (.ineg, 1) := by decide +kernel
theorem dX12_sizeOf_102 : decode cX12_sizeOf 102 = .ok (.goto 15, 3) := by decide +kernel
theorem dX12_sizeOf_105 : decode cX12_sizeOf 105 = .ok (.iload_n 2, 1) := by decide +kernel
theorem dX12_sizeOf_106 : decode cX12_sizeOf 106 = .ok (.iconst 5, 1) := by decide +kernel
theorem dX12_sizeOf_107 : decode cX12_sizeOf 107 = .ok (.if_icmp .ne 9, 3) := by decide +kernel
theorem dX12_sizeOf_110 : decode cX12_sizeOf 110 = .ok (.iconst 2, 1) := by decide +kernel
theorem dX12_sizeOf_111 : decode cX12_sizeOf 111 = .ok (.iload_n 3, 1) := by decide +kernel
theorem dX12_sizeOf_112 : decode cX12_sizeOf 112 = .ok (.imul, 1) := by decide +kernel
theorem dX12_sizeOf_113 : decode cX12_sizeOf 113 = .ok (.goto 4, 3) := by decide +kernel
theorem dX12_sizeOf_116 : decode cX12_sizeOf 116 = .ok (.iload_n 3, 1) := by decide +kernel
theorem dX12_sizeOf_117 : decode cX12_sizeOf 117 = .ok (.ireturn, 1) := by decide +kernel
theorem dX12_markOf_0 : decode cX12_markOf 0 = .ok (.aload_n 0, 1) := by decide +kernel
theorem dX12_markOf_1 : decode cX12_markOf 1 = .ok (.iload_n 1, 1) := by decide +kernel
theorem dX12_markOf_2 : decode cX12_markOf 2 = .ok (.iconst 0, 1) := by decide +kernel
theorem dX12_markOf_3 : decode cX12_markOf 3 = .ok (.invokevirtual 202, 3) := by decide +kernel
theorem dX12_markOf_6 : decode cX12_markOf 6 = .ok (.istore_n 2, 1) := by decide +kernel
theorem dX12_markOf_7 : decode cX12_markOf 7 = .ok (.aload_n 0, 1) := by decide +kernel
theorem dX12_markOf_8 : decode cX12_markOf 8 = .ok (.iload_n 1, 1) := by decide +kernel
theorem dX12_markOf_9 : decode cX12_markOf 9 = .ok (.invokevirtual 240, 3) := by decide +kernel
theorem dX12_markOf_12 : decode cX12_markOf 12 = .ok (.ifCond .eq 9, 3) := by decide +kernel
theorem dX12_markOf_15 : decode cX12_markOf 15 = .ok (.aload_n 0, 1) := by decide +kernel
theorem dX12_markOf_16 : decode cX12_markOf 16 = .ok (.iload_n 1, 1) := by decide +kernel
theorem dX12_markOf_17 : decode cX12_markOf 17 = .ok (.invokevirtual 300, 3) := by decide +kernel
theorem dX12_markOf_20 : decode cX12_markOf 20 = .ok (.ireturn, 1) := by decide +kernel
theorem dX12_markOf_21 : decode cX12_markOf 21 = .ok (.iload_n 2, 1) := by decide +kernel
theorem dX12_markOf_22 : decode cX12_markOf 22 = .ok (.iconst 3, 1) := by decide +kernel
theorem dX12_markOf_23 : decode cX12_markOf 23 = .ok (.if_icmp .eq 19, 3) := by decide +kernel
theorem dX12_markOf_26 : decode cX12_markOf 26 = .ok (.aload_n 0, 1) := by decide +kernel
theorem dX12_markOf_27 : decode cX12_markOf 27 = .ok (.iload_n 2, 1) := by decide +kernel
theorem dX12_markOf_28 : decode cX12_markOf 28 = .ok (.iconst 4, 1) := by decide +kernel
theorem dX12_markOf_29 : decode cX12_markOf 29 = .ok (.if_icmp .ne 8, 3) := by decide +kernel
theorem dX12_markOf_32 : decode cX12_markOf 32 = .ok (.bipush 22, 2) := by decide +kernel
theorem dX12_markOf_34 : decode cX12_markOf 34 = .ok (.goto 5, 3) := by decide +kernel
theorem dX12_markOf_37 : decode cX12_markOf 37 = .ok (.bipush 23, 2) := by decide +kernel
theorem dX12_markOf_39 : decode cX12_markOf 39 = .ok (.invokevirtual 294, 3) := by decide +kernel
theorem dX12_markOf_42 : decode cX12_markOf 42 = .ok (.aload_n 0, 1) := by decide +kernel
theorem dX12_markOf_43 : decode cX12_markOf 43 = .ok (.bipush 20, 2) := by decide +kernel
theorem dX12_markOf_45 : decode cX12_markOf 45 = .ok (.invokevirtual 294, 3) := by decide +kernel
theorem dX12_markOf_48 : decode cX12_markOf 48 = .ok (.iload_n 2, 1) := by decide +kernel
theorem dX12_markOf_49 : decode cX12_markOf 49 = .ok (.iconst 3, 1) := by decide +kernel
theorem dX12_markOf_50 : decode cX12_markOf 50 = .ok (.if_icmp .ne 7, 3) := by decide +kernel
theorem dX12_markOf_53 : decode cX12_markOf 53 = .ok (.iload_n 1, 1) := by decide +kernel
theorem dX12_markOf_54 : decode cX12_markOf 54 = .ok (.goto 28, 3) := by decide +kernel
theorem dX12_markOf_57 : decode cX12_markOf 57 = .ok (.iload_n 2, 1) := by decide +kernel
theorem dX12_markOf_58 : decode cX12_markOf 58 = .ok (.iconst 4, 1) := by decide +kernel
theorem dX12_markOf_59 : decode cX12_markOf 59 = .ok (.if_icmp .ne 13, 3) := by decide +kernel
theorem dX12_markOf_62 : decode cX12_markOf 62 = .ok (.iload_n 1, 1) := by decide +kernel
theorem dX12_markOf_63 : decode cX12_markOf 63 = .ok (.aload_n 0, 1) := by decide +kernel
theorem dX12_markOf_64 : decode cX12_markOf 64 = .ok (.iload_n 1, 1) := by decide +kernel
theorem dX12_markOf_65 : decode cX12_markOf 65 = .ok (.invokevirtual 303, 3) := by decide +kernel
theorem dX12_markOf_68 : decode cX12_markOf 68 = .ok (.isub, 1) := by decide +kernel
theorem dX12_markOf_69 : decode cX12_markOf 69 = .ok (.goto 13, 3) := by decide +kernel
theorem dX12_markOf_72 : decode cX12_markOf 72 = .ok (.iload_n 1, 1) := by decide +kernel
theorem dX12_markOf_73 : decode cX12_markOf 73 = .ok (.bipush 10, 2) := by decide +kernel
theorem dX12_markOf_75 : decode cX12_markOf 75 = .ok (.aload_n 0, 1) := by decide +kernel
theorem dX12_markOf_76 : decode cX12_markOf 76 = .ok (.iload_n 1, 1) := by decide +kernel
theorem dX12_markOf_77 : decode cX12_markOf 77 = .ok (.invokevirtual 303, 3) := by decide +kernel
theorem dX12_markOf_80 : decode cX12_markOf 80 = .ok (.imul, 1) := by decide +kernel
theorem dX12_markOf_81 : decode cX12_markOf 81 = .ok (.iadd, 1) := by decide +kernel
theorem dX12_markOf_82 : decode cX12_markOf 82 = .ok (.ireturn, 1) := by decide +kernel
theorem dX12_ask_0 : decode cX12_ask 0 = .ok (.aload_n 0, 1) := by decide +kernel
end
section
theorem dX12_ask_1 : decode cX12_ask 1 = .ok (.iconst 0, 1) := by decide +kernel
theorem dX12_ask_2 : decode cX12_ask 2 = .ok (.putfield 53, 3) := by decide +kernel
theorem dX12_ask_5 : decode cX12_ask 5 = .ok (.aload_n 0, 1) := by decide +kernel
theorem dX12_ask_6 : decode cX12_ask 6 = .ok (.iload_n 1, 1) := by decide +kernel
theorem dX12_ask_7 : decode cX12_ask 7 = .ok (.invokevirtual 215, 3) := by decide +kernel
theorem dX12_ask_10 : decode cX12_ask 10 = .ok (.ifCond .eq 13, 3) := by decide +kernel
theorem dX12_ask_13 : decode cX12_ask 13 = .ok (.iload_n 2, 1) := by decide +kernel
theorem dX12_ask_14 : decode cX12_ask 14 = .ok (.i2l, 1) := by decide +kernel
theorem dX12_ask_15 : decode cX12_ask 15 = .ok (.lconst 0, 1) := by decide +kernel
theorem dX12_ask_16 : decode cX12_ask 16 = .ok (.lconst 1, 1) := by decide +kernel
theorem dX12_ask_17 : decode cX12_ask 17 = .ok (.invokestatic 63, 3) := by decide +kernel
theorem dX12_ask_20 : decode cX12_ask 20 = .ok (.ifCond .ne 6, 3) := by decide +kernel
theorem dX12_ask_23 : decode cX12_ask 23 = .ok (.ldc 73, 2) := by decide +kernel
theorem dX12_ask_25 : decode cX12_ask 25 = .ok (.ireturn, 1) := by decide +kernel
theorem dX12_ask_26 : decode cX12_ask 26 = .ok (.aload_n 0, 1) := by decide +kernel
theorem dX12_ask_27 : decode cX12_ask 27 = .ok (.iconst 0, 1) := by decide +kernel
theorem dX12_ask_28 : decode cX12_ask 28 = .ok (.putfield 291, 3) := by decide +kernel
theorem dX12_ask_31 : decode cX12_ask 31 = .ok (.iload_n 2, 1) := by decide +kernel
theorem dX12_ask_32 : decode cX12_ask 32 = .ok (.ifCond .ne 11, 3) := by decide +kernel
theorem dX12_ask_35 : decode cX12_ask 35 = .ok (.aload_n 0, 1) := by decide +kernel
theorem dX12_ask_36 : decode cX12_ask 36 = .ok (.iload_n 1, 1) := by decide +kernel
theorem dX12_ask_37 : decode cX12_ask 37 = .ok (.invokevirtual 303, 3) := by decide +kernel
theorem dX12_ask_40 : decode cX12_ask 40 = .ok (.goto 8, 3) := by decide +kernel
theorem dX12_ask_43 : decode cX12_ask 43 = .ok (.aload_n 0, 1) := by decide +kernel
theorem dX12_ask_44 : decode cX12_ask 44 = .ok (.iload_n 1, 1) := by decide +kernel
theorem dX12_ask_45 : decode cX12_ask 45 = .ok (.invokevirtual 306, 3) := by decide +kernel
theorem dX12_ask_48 : decode cX12_ask 48 = .ok (.ireturn, 1) := by decide +kernel
theorem dX12_trace_0 : decode cX12_trace 0 = .ok (.aload_n 0, 1) := by decide +kernel
theorem dX12_trace_1 : decode cX12_trace 1 = .ok (.iconst 0, 1) := by decide +kernel
theorem dX12_trace_2 : decode cX12_trace 2 = .ok (.putfield 53, 3) := by decide +kernel
theorem dX12_trace_5 : decode cX12_trace 5 = .ok (.iload_n 1, 1) := by decide +kernel
theorem dX12_trace_6 : decode cX12_trace 6 = .ok (.i2l, 1) := by decide +kernel
theorem dX12_trace_7 : decode cX12_trace 7 = .ok (.lconst 0, 1) := by decide +kernel
theorem dX12_trace_8 : decode cX12_trace 8 = .ok (.aload_n 0, 1) := by decide +kernel
theorem dX12_trace_9 : decode cX12_trace 9 = .ok (.getfield 291, 3) := by decide +kernel
theorem dX12_trace_12 : decode cX12_trace 12 = .ok (.iconst 1, 1) := by decide +kernel
theorem dX12_trace_13 : decode cX12_trace 13 = .ok (.isub, 1) := by decide +kernel
theorem dX12_trace_14 : decode cX12_trace 14 = .ok (.i2l, 1) := by decide +kernel
theorem dX12_trace_15 : decode cX12_trace 15 = .ok (.invokestatic 63, 3) := by decide +kernel
theorem dX12_trace_18 : decode cX12_trace 18 = .ok (.ifCond .eq 12, 3) := by decide +kernel
theorem dX12_trace_21 : decode cX12_trace 21 = .ok (.aload_n 0, 1) := by decide +kernel
theorem dX12_trace_22 : decode cX12_trace 22 = .ok (.getfield 50, 3) := by decide +kernel
theorem dX12_trace_25 : decode cX12_trace 25 = .ok (.iload_n 1, 1) := by decide +kernel
theorem dX12_trace_26 : decode cX12_trace 26 = .ok (.iaload, 1) := by decide +kernel
theorem dX12_trace_27 : decode cX12_trace 27 = .ok (.goto 5, 3) := by decide +kernel
theorem dX12_trace_30 : decode cX12_trace 30 = .ok (.ldc 89, 2) := by decide +kernel
theorem dX12_trace_32 : decode cX12_trace 32 = .ok (.ireturn, 1) := by decide +kernel
theorem dX12_count_0 : decode cX12_count 0 = .ok (.aload_n 0, 1) := by decide +kernel
theorem dX12_count_1 : decode cX12_count 1 = .ok (.iconst 0, 1) := by decide +kernel
theorem dX12_count_2 : decode cX12_count 2 = .ok (.putfield 53, 3) := by decide +kernel
theorem dX12_count_5 : decode cX12_count 5 = .ok (.iconst 0, 1) := by decide +kernel
theorem dX12_count_6 : decode cX12_count 6 = .ok (.istore_n 2, 1) := by decide +kernel
theorem dX12_count_7 : decode cX12_count 7 = .ok (.iload_n 1, 1) := by decide +kernel
theorem dX12_count_8 : decode cX12_count 8 = .ok (.tableswitch 170 0 7 #[48, 81, 81, 81, 90, 129, 158, 165], 48) := by decide +kernel
theorem dX12_count_56 : decode cX12_count 56 = .ok (.iconst 0, 1) := by decide +kernel
theorem dX12_count_57 : decode cX12_count 57 = .ok (.istore_n 3, 1) := by decide +kernel
theorem dX12_count_58 : decode cX12_count 58 = .ok (.iload_n 3, 1) := by decide +kernel
theorem dX12_count_59 : decode cX12_count 59 = .ok (.bipush 8, 2) := by decide +kernel
theorem dX12_count_61 : decode cX12_count 61 = .ok (.if_icmp .ge 26, 3) := by decide +kernel
theorem dX12_count_64 : decode cX12_count 64 = .ok (.iload_n 2, 1) := by decide +kernel
theorem dX12_count_65 : decode cX12_count 65 = .ok (.aload_n 0, 1) := by decide +kernel
theorem dX12_count_66 : decode cX12_count 66 = .ok (.getfield 7, 3) := by decide +kernel
theorem dX12_count_69 : decode cX12_count 69 = .ok (.iload_n 3, 1) := by decide +kernel
theorem dX12_count_70 : decode cX12_count 70 = .ok (.iaload, 1) := by decide +kernel
theorem dX12_count_71 : decode cX12_count 71 = .ok (.ifCond .lt 7, 3) := by decide +kernel
theorem dX12_count_74 : decode cX12_count 74 = .ok (.iconst 1, 1) := by decide +kernel
theorem dX12_count_75 : decode cX12_count 75 = .ok (.goto 4, 3) := by decide +kernel
theorem dX12_count_78 : decode cX12_count 78 = .ok (.iconst 0, 1) := by decide +kernel
theorem dX12_count_79 : decode cX12_count 79 = .ok (.iadd, 1) := by decide +kernel
theorem dX12_count_80 : decode cX12_count 80 = .ok (.istore_n 2, 1) := by decide +kernel
theorem dX12_count_81 : decode cX12_count 81 = .ok (.iinc 3 1, 3) := by decide +kernel
theorem dX12_count_84 : decode cX12_count 84 = .ok (.goto (-26), 3) := by decide +kernel
theorem dX12_count_87 : decode cX12_count 87 = .ok (.iload_n 2, 1) := by decide +kernel
theorem dX12_count_88 : decode cX12_count 88 = .ok (.ireturn, 1) := by decide +kernel
theorem dX12_count_89 : decode cX12_count 89 = .ok (.aload_n 0, 1) := by decide +kernel
theorem dX12_count_90 : decode cX12_count 90 = .ok (.getfield 19, 3) := by decide +kernel
theorem dX12_count_93 : decode cX12_count 93 = .ok (.iload_n 1, 1) := by decide +kernel
theorem dX12_count_94 : decode cX12_count 94 = .ok (.iconst 1, 1) := by decide +kernel
theorem dX12_count_95 : decode cX12_count 95 = .ok (.isub, 1) := by decide +kernel
theorem dX12_count_96 : decode cX12_count 96 = .ok (.iaload, 1) := by decide +kernel
theorem dX12_count_97 : decode cX12_count 97 = .ok (.ireturn, 1) := by decide +kernel
theorem dX12_count_98 : decode cX12_count 98 = .ok (.iconst 0, 1) := by decide +kernel
theorem dX12_count_99 : decode cX12_count 99 = .ok (.istore_n 3, 1) := by decide +kernel
theorem dX12_count_100 : decode cX12_count 100 = .ok (.iload_n 3, 1) := by decide +kernel
theorem dX12_count_101 : decode cX12_count 101 = .ok (.aload_n 0, 1) := by decide +kernel
theorem dX12_count_102 : decode cX12_count 102 = .ok (.getfield 19, 3) := by decide +kernel
theorem dX12_count_105 : decode cX12_count 105 = .ok (.iconst 2, 1) := by decide +kernel
theorem dX12_count_106 : decode cX12_count 106 = .ok (.iaload, 1) := by decide +kernel
theorem dX12_count_107 : decode cX12_count 107 = .ok (.if_icmp .ge 28, 3) := by decide +kernel
theorem dX12_count_110 : decode cX12_count 110 = .ok (.iload_n 2, 1) := by decide +kernel
theorem dX12_count_111 : decode cX12_count 111 = .ok (.aload_n 0, 1) := by decide +kernel
theorem dX12_count_112 : decode cX12_count 112 = .ok (.iload_n 3, 1) := by decide +kernel
theorem dX12_count_113 : decode cX12_count 113 = .ok (.iconst 4, 1) := by decide +kernel
theorem dX12_count_114 : decode cX12_count 114 = .ok (.invokevirtual 202, 3) := by decide +kernel
theorem dX12_count_117 : decode cX12_count 117 = .ok (.ldc 89, 2) := by decide +kernel
theorem dX12_count_119 : decode cX12_count 119 = .ok (.if_icmp .eq 7, 3) := by decide +kernel
theorem dX12_count_122 : decode cX12_count 122 = .ok (.iconst 1, 1) := by decide +kernel
theorem dX12_count_123 : decode cX12_count 123 = .ok (.goto 4, 3) := by decide +kernel
theorem dX12_count_126 : decode cX12_count 126 = .ok (.iconst 0, 1) := by decide +kernel
theorem dX12_count_127 : decode cX12_count 127 = .ok (.iadd, 1) := by decide +kernel
theorem dX12_count_128 : decode cX12_count 128 = .ok (.istore_n 2, 1) := by decide +kernel
theorem dX12_count_129 : decode cX12_count 129 = .ok (.iinc 3 1, 3) := by decide +kernel
theorem dX12_count_132 : decode cX12_count 132 = .ok (.goto (-32), 3) := by decide +kernel
theorem dX12_count_135 : decode cX12_count 135 = .ok (.iload_n 2, 1) := by decide +kernel
theorem dX12_count_136 : decode cX12_count 136 = .ok (.ireturn, 1) := by decide +kernel
theorem dX12_count_137 : decode cX12_count 137 = .ok (.iconst 0, 1) := by decide +kernel
theorem dX12_count_138 : decode cX12_count 138 = .ok (.istore_n 3, 1) := by decide +kernel
theorem dX12_count_139 : decode cX12_count 139 = .ok (.iload_n 3, 1) := by decide +kernel
theorem dX12_count_140 : decode cX12_count 140 = .ok (.aload_n 0, 1) := by decide +kernel
theorem dX12_count_141 : decode cX12_count 141 = .ok (.getfield 19, 3) := by decide +kernel
theorem dX12_count_144 : decode cX12_count 144 = .ok (.iconst 2, 1) := by decide +kernel
theorem dX12_count_145 : decode cX12_count 145 = .ok (.iaload, 1) := by decide +kernel
theorem dX12_count_146 : decode cX12_count 146 = .ok (.if_icmp .ge 18, 3) := by decide +kernel
theorem dX12_count_149 : decode cX12_count 149 = .ok (.iload_n 2, 1) := by decide +kernel
theorem dX12_count_150 : decode cX12_count 150 = .ok (.aload_n 0, 1) := by decide +kernel
theorem dX12_count_151 : decode cX12_count 151 = .ok (.iload_n 3, 1) := by decide +kernel
theorem dX12_count_152 : decode cX12_count 152 = .ok (.iconst 5, 1) := by decide +kernel
theorem dX12_count_153 : decode cX12_count 153 = .ok (.invokevirtual 202, 3) := by decide +kernel
theorem dX12_count_156 : decode cX12_count 156 = .ok (.iadd, 1) := by decide +kernel
theorem dX12_count_157 : decode cX12_count 157 = .ok (.istore_n 2, 1) := by decide +kernel
theorem dX12_count_158 : decode cX12_count 158 = .ok (.iinc 3 1, 3) := by decide +kernel
theorem dX12_count_161 : decode cX12_count 161 = .ok (.goto (-22), 3) := by decide +kernel
theorem dX12_count_164 : decode cX12_count 164 = .ok (.iload_n 2, 1) := by decide +kernel
theorem dX12_count_165 : decode cX12_count 165 = .ok (.ireturn, 1) := by decide +kernel
theorem dX12_count_166 : decode cX12_count 166 = .ok (.aload_n 0, 1) := by decide +kernel
theorem dX12_count_167 : decode cX12_count 167 = .ok (.getfield 19, 3) := by decide +kernel
theorem dX12_count_170 : decode cX12_count 170 = .ok (.iconst 3, 1) := by decide +kernel
theorem dX12_count_171 : decode cX12_count 171 = .ok (.iaload, 1) := by decide +kernel
theorem dX12_count_172 : decode cX12_count 172 = .ok (.ireturn, 1) := by decide +kernel
theorem dX12_count_173 : decode cX12_count 173 = .ok (.aload_n 0, 1) := by decide +kernel
theorem dX12_count_174 : decode cX12_count 174 = .ok (.getfield 80, 3) := by decide +kernel
theorem dX12_count_177 : decode cX12_count 177 = .ok (.ireturn, 1) := by decide +kernel
theorem dX12_count_178 : decode cX12_count 178 = .ok (.ldc 73, 2) := by decide +kernel
theorem dX12_count_180 : decode cX12_count 180 = .ok (.ireturn, 1) := by decide +kernel
theorem dX12_status_0 : decode cX12_status 0 = .ok (.aload_n 0, 1) := by decide +kernel
theorem dX12_status_1 : decode cX12_status 1 = .ok (.iconst 0, 1) := by decide +kernel
theorem dX12_status_2 : decode cX12_status 2 = .ok (.putfield 53, 3) := by decide +kernel
theorem dX12_status_5 : decode cX12_status 5 = .ok (.aload_n 0, 1) := by decide +kernel
theorem dX12_status_6 : decode cX12_status 6 = .ok (.getfield 57, 3) := by decide +kernel
theorem dX12_status_9 : decode cX12_status 9 = .ok (.ireturn, 1) := by decide +kernel
theorem dJ6_bitCount_0f7a4_0 : decode cJ6_bitCount_0f7a4 0 = .ok (.iload_n 0, 1) := by decide +kernel
theorem dJ6_bitCount_0f7a4_1 : decode cJ6_bitCount_0f7a4 1 = .ok (.iload_n 0, 1) := by decide +kernel
theorem dJ6_bitCount_0f7a4_2 : decode cJ6_bitCount_0f7a4 2 = .ok (.iconst 1, 1) := by decide +kernel
theorem dJ6_bitCount_0f7a4_3 : decode cJ6_bitCount_0f7a4 3 = .ok (.iushr, 1) := by decide +kernel
theorem dJ6_bitCount_0f7a4_4 : decode cJ6_bitCount_0f7a4 4 = .ok (.ldc_w 265, 3) := by decide +kernel
theorem dJ6_bitCount_0f7a4_7 : decode cJ6_bitCount_0f7a4 7 = .ok (.iand, 1) := by decide +kernel
theorem dJ6_bitCount_0f7a4_8 : decode cJ6_bitCount_0f7a4 8 = .ok (.isub, 1) := by decide +kernel
theorem dJ6_bitCount_0f7a4_9 : decode cJ6_bitCount_0f7a4 9 = .ok (.istore_n 0, 1) := by decide +kernel
theorem dJ6_bitCount_0f7a4_10 : decode cJ6_bitCount_0f7a4 10 = .ok (.iload_n 0, 1) := by decide +kernel
theorem dJ6_bitCount_0f7a4_11 : decode cJ6_bitCount_0f7a4 11 = .ok (.ldc_w 266, 3) := by decide +kernel
theorem dJ6_bitCount_0f7a4_14 : decode cJ6_bitCount_0f7a4 14 = .ok (.iand, 1) := by decide +kernel
theorem dJ6_bitCount_0f7a4_15 : decode cJ6_bitCount_0f7a4 15 = .ok (.iload_n 0, 1) := by decide +kernel
theorem dJ6_bitCount_0f7a4_16 : decode cJ6_bitCount_0f7a4 16 = .ok (.iconst 2, 1) := by decide +kernel
theorem dJ6_bitCount_0f7a4_17 : decode cJ6_bitCount_0f7a4 17 = .ok (.iushr, 1) := by decide +kernel
theorem dJ6_bitCount_0f7a4_18 : decode cJ6_bitCount_0f7a4 18 = .ok (.ldc_w 266, 3) := by decide +kernel
theorem dJ6_bitCount_0f7a4_21 : decode cJ6_bitCount_0f7a4 21 = .ok (.iand, 1) := by decide +kernel
theorem dJ6_bitCount_0f7a4_22 : decode cJ6_bitCount_0f7a4 22 = .ok (.iadd, 1) := by decide +kernel
theorem dJ6_bitCount_0f7a4_23 : decode cJ6_bitCount_0f7a4 23 = .ok (.istore_n 0, 1) := by decide +kernel
theorem dJ6_bitCount_0f7a4_24 : decode cJ6_bitCount_0f7a4 24 = .ok (.iload_n 0, 1) := by decide +kernel
theorem dJ6_bitCount_0f7a4_25 : decode cJ6_bitCount_0f7a4 25 = .ok (.iload_n 0, 1) := by decide +kernel
theorem dJ6_bitCount_0f7a4_26 : decode cJ6_bitCount_0f7a4 26 = .ok (.iconst 4, 1) := by decide +kernel
theorem dJ6_bitCount_0f7a4_27 : decode cJ6_bitCount_0f7a4 27 = .ok (.iushr, 1) := by decide +kernel
theorem dJ6_bitCount_0f7a4_28 : decode cJ6_bitCount_0f7a4 28 = .ok (.iadd, 1) := by decide +kernel
theorem dJ6_bitCount_0f7a4_29 : decode cJ6_bitCount_0f7a4 29 = .ok (.ldc_w 267, 3) := by decide +kernel
theorem dJ6_bitCount_0f7a4_32 : decode cJ6_bitCount_0f7a4 32 = .ok (.iand, 1) := by decide +kernel
theorem dJ6_bitCount_0f7a4_33 : decode cJ6_bitCount_0f7a4 33 = .ok (.istore_n 0, 1) := by decide +kernel
theorem dJ6_bitCount_0f7a4_34 : decode cJ6_bitCount_0f7a4 34 = .ok (.iload_n 0, 1) := by decide +kernel
theorem dJ6_bitCount_0f7a4_35 : decode cJ6_bitCount_0f7a4 35 = .ok (.iload_n 0, 1) := by decide +kernel
theorem dJ6_bitCount_0f7a4_36 : decode cJ6_bitCount_0f7a4 36 = .ok (.bipush 8, 2) := by decide +kernel
theorem dJ6_bitCount_0f7a4_38 : decode cJ6_bitCount_0f7a4 38 = .ok (.iushr, 1) := by decide +kernel
theorem dJ6_bitCount_0f7a4_39 : decode cJ6_bitCount_0f7a4 39 = .ok (.iadd, 1) := by decide +kernel
theorem dJ6_bitCount_0f7a4_40 : decode cJ6_bitCount_0f7a4 40 = .ok (.istore_n 0, 1) := by decide +kernel
theorem dJ6_bitCount_0f7a4_41 : decode cJ6_bitCount_0f7a4 41 = .ok (.iload_n 0, 1) := by decide +kernel
theorem dJ6_bitCount_0f7a4_42 : decode cJ6_bitCount_0f7a4 42 = .ok (.iload_n 0, 1) := by decide +kernel
theorem dJ6_bitCount_0f7a4_43 : decode cJ6_bitCount_0f7a4 43 = .ok (.bipush 16, 2) := by decide +kernel
theorem dJ6_bitCount_0f7a4_45 : decode cJ6_bitCount_0f7a4 45 = .ok (.iushr, 1) := by decide +kernel
theorem dJ6_bitCount_0f7a4_46 : decode cJ6_bitCount_0f7a4 46 = .ok (.iadd, 1) := by decide +kernel
theorem dJ6_bitCount_0f7a4_47 : decode cJ6_bitCount_0f7a4 47 = .ok (.istore_n 0, 1) := by decide +kernel
theorem dJ6_bitCount_0f7a4_48 : decode cJ6_bitCount_0f7a4 48 = .ok (.iload_n 0, 1) := by decide +kernel
theorem dJ6_bitCount_0f7a4_49 : decode cJ6_bitCount_0f7a4 49 = .ok (.bipush 63, 2) := by decide +kernel
theorem dJ6_bitCount_0f7a4_51 : decode cJ6_bitCount_0f7a4 51 = .ok (.iand, 1) := by decide +kernel
theorem dJ6_bitCount_0f7a4_52 : decode cJ6_bitCount_0f7a4 52 = .ok (.ireturn, 1) := by decide +kernel
theorem dJ9_floorMod_7cf53_0 : decode cJ9_floorMod_7cf53 0 = .ok (.iload_n 0, 1) := by decide +kernel
theorem dJ9_floorMod_7cf53_1 : decode cJ9_floorMod_7cf53 1 = .ok (.iload_n 1, 1) := by decide +kernel
theorem dJ9_floorMod_7cf53_2 : decode cJ9_floorMod_7cf53 2 = .ok (.irem, 1) := by decide +kernel
theorem dJ9_floorMod_7cf53_3 : decode cJ9_floorMod_7cf53 3 = .ok (.istore_n 2, 1) := by decide +kernel
theorem dJ9_floorMod_7cf53_4 : decode cJ9_floorMod_7cf53 4 = .ok (.iload_n 0, 1) := by decide +kernel
theorem dJ9_floorMod_7cf53_5 : decode cJ9_floorMod_7cf53 5 = .ok (.iload_n 1, 1) := by decide +kernel
theorem dJ9_floorMod_7cf53_6 : decode cJ9_floorMod_7cf53 6 = .ok (.ixor, 1) := by decide +kernel
theorem dJ9_floorMod_7cf53_7 : decode cJ9_floorMod_7cf53 7 = .ok (.ifCond .ge 11, 3) := by decide +kernel
theorem dJ9_floorMod_7cf53_10 : decode cJ9_floorMod_7cf53 10 = .ok (.iload_n 2, 1) := by decide +kernel
theorem dJ9_floorMod_7cf53_11 : decode cJ9_floorMod_7cf53 11 = .ok (.ifCond .eq 7, 3) := by decide +kernel
theorem dJ9_floorMod_7cf53_14 : decode cJ9_floorMod_7cf53 14 = .ok (.iload_n 2, 1) := by decide +kernel
theorem dJ9_floorMod_7cf53_15 : decode cJ9_floorMod_7cf53 15 = .ok (.iload_n 1, 1) := by decide +kernel
theorem dJ9_floorMod_7cf53_16 : decode cJ9_floorMod_7cf53 16 = .ok (.iadd, 1) := by decide +kernel
theorem dJ9_floorMod_7cf53_17 : decode cJ9_floorMod_7cf53 17 = .ok (.ireturn, 1) := by decide +kernel
theorem dJ9_floorMod_7cf53_18 : decode cJ9_floorMod_7cf53 18 = .ok (.iload_n 2, 1) := by decide +kernel
theorem dJ9_floorMod_7cf53_19 : decode cJ9_floorMod_7cf53 19 = .ok (.ireturn, 1) := by decide +kernel
theorem dJ9_max_7cf53_0 : decode cJ9_max_7cf53 0 = .ok (.iload_n 0, 1) := by decide +kernel
theorem dJ9_max_7cf53_1 : decode cJ9_max_7cf53 1 = .ok (.iload_n 1, 1) := by decide +kernel
theorem dJ9_max_7cf53_2 : decode cJ9_max_7cf53 2 = .ok (.if_icmp .lt 7, 3) := by decide +kernel
theorem dJ9_max_7cf53_5 : decode cJ9_max_7cf53 5 = .ok (.iload_n 0, 1) := by decide +kernel
theorem dJ9_max_7cf53_6 : decode cJ9_max_7cf53 6 = .ok (.goto 4, 3) := by decide +kernel
theorem dJ9_max_7cf53_9 : decode cJ9_max_7cf53 9 = .ok (.iload_n 1, 1) := by decide +kernel
theorem dJ9_max_7cf53_10 : decode cJ9_max_7cf53 10 = .ok (.ireturn, 1) := by decide +kernel
theorem dJ9_min_7cf53_0 : decode cJ9_min_7cf53 0 = .ok (.iload_n 0, 1) := by decide +kernel
theorem dJ9_min_7cf53_1 : decode cJ9_min_7cf53 1 = .ok (.iload_n 1, 1) := by decide +kernel
theorem dJ9_min_7cf53_2 : decode cJ9_min_7cf53 2 = .ok (.if_icmp .gt 7, 3) := by decide +kernel
theorem dJ9_min_7cf53_5 : decode cJ9_min_7cf53 5 = .ok (.iload_n 0, 1) := by decide +kernel
theorem dJ9_min_7cf53_6 : decode cJ9_min_7cf53 6 = .ok (.goto 4, 3) := by decide +kernel
theorem dJ9_min_7cf53_9 : decode cJ9_min_7cf53 9 = .ok (.iload_n 1, 1) := by decide +kernel
theorem dJ9_min_7cf53_10 : decode cJ9_min_7cf53 10 = .ok (.ireturn, 1) := by decide +kernel
theorem dJ0_length_8abf5_0 : decode cJ0_length_8abf5 0 = .ok (.aload_n 0, 1) := by decide +kernel
theorem dJ0_length_8abf5_1 : decode cJ0_length_8abf5 1 = .ok (.getfield 9, 3) := by decide +kernel
theorem dJ0_length_8abf5_4 : decode cJ0_length_8abf5 4 = .ok (.arraylength, 1) := by decide +kernel
theorem dJ0_length_8abf5_5 : decode cJ0_length_8abf5 5 = .ok (.aload_n 0, 1) := by decide +kernel
theorem dJ0_length_8abf5_6 : decode cJ0_length_8abf5 6 = .ok (.invokevirtual 335, 3) := by decide +kernel
theorem dJ0_length_8abf5_9 : decode cJ0_length_8abf5 9 = .ok (.ishr, 1) := by decide +kernel
theorem dJ0_length_8abf5_10 : decode cJ0_length_8abf5 10 = .ok (.ireturn, 1) := by decide +kernel
theorem dJ0_charAt_5068e_0 : decode cJ0_charAt_5068e 0 = .ok (.aload_n 0, 1) := by decide +kernel
theorem dJ0_charAt_5068e_1 : decode cJ0_charAt_5068e 1 = .ok (.invokevirtual 492, 3) := by decide +kernel
theorem dJ0_charAt_5068e_4 : decode cJ0_charAt_5068e 4 = .ok (.ifCond .eq 12, 3) := by decide +kernel
theorem dJ0_charAt_5068e_7 : decode cJ0_charAt_5068e 7 = .ok (.aload_n 0, 1) := by decide +kernel
theorem dJ0_charAt_5068e_8 : decode cJ0_charAt_5068e 8 = .ok (.getfield 9, 3) := by decide +kernel
theorem dJ0_charAt_5068e_11 : decode cJ0_charAt_5068e 11 = .ok (.iload_n 1, 1) := by decide +kernel
theorem dJ0_charAt_5068e_12 : decode cJ0_charAt_5068e 12 = .ok (.invokestatic 495, 3) := by decide +kernel
theorem dJ0_charAt_5068e_15 : decode cJ0_charAt_5068e 15 = .ok (.ireturn, 1) := by decide +kernel
theorem dJ0_charAt_5068e_16 : decode cJ0_charAt_5068e 16 = .ok (.aload_n 0, 1) := by decide +kernel
theorem dJ0_charAt_5068e_17 : decode cJ0_charAt_5068e 17 = .ok (.getfield 9, 3) := by decide +kernel
theorem dJ0_charAt_5068e_20 : decode cJ0_charAt_5068e 20 = .ok (.iload_n 1, 1) := by decide +kernel
theorem dJ0_charAt_5068e_21 : decode cJ0_charAt_5068e 21 = .ok (.invokestatic 498, 3) := by decide +kernel
theorem dJ0_charAt_5068e_24 : decode cJ0_charAt_5068e 24 = .ok (.ireturn, 1) := by decide +kernel
theorem dJ0_coder_7d493_0 : decode cJ0_coder_7d493 0 = .ok (.getstatic 38, 3) := by decide +kernel
theorem dJ0_coder_7d493_3 : decode cJ0_coder_7d493 3 = .ok (.ifCond .eq 10, 3) := by decide +kernel
theorem dJ0_coder_7d493_6 : decode cJ0_coder_7d493 6 = .ok (.aload_n 0, 1) := by decide +kernel
theorem dJ0_coder_7d493_7 : decode cJ0_coder_7d493 7 = .ok (.getfield 15, 3) := by decide +kernel
theorem dJ0_coder_7d493_10 : decode cJ0_coder_7d493 10 = .ok (.goto 4, 3) := by decide +kernel
theorem dJ0_coder_7d493_13 : decode cJ0_coder_7d493 13 = .ok (.iconst 1, 1) := by decide +kernel
theorem dJ0_coder_7d493_14 : decode cJ0_coder_7d493 14 = .ok (.ireturn, 1) := by decide +kernel
theorem dJ0_isLatin1_aae02_0 : decode cJ0_isLatin1_aae02 0 = .ok (.getstatic 38, 3) := by decide +kernel
theorem dJ0_isLatin1_aae02_3 : decode cJ0_isLatin1_aae02 3 = .ok (.ifCond .eq 14, 3) := by decide +kernel
theorem dJ0_isLatin1_aae02_6 : decode cJ0_isLatin1_aae02 6 = .ok (.aload_n 0, 1) := by decide +kernel
theorem dJ0_isLatin1_aae02_7 : decode cJ0_isLatin1_aae02 7 = .ok (.getfield 15, 3) := by decide +kernel
theorem dJ0_isLatin1_aae02_10 : decode cJ0_isLatin1_aae02 10 = .ok (.ifCond .ne 7, 3) := by decide +kernel
theorem dJ0_isLatin1_aae02_13 : decode cJ0_isLatin1_aae02 13 = .ok (.iconst 1, 1) := by decide +kernel
theorem dJ0_isLatin1_aae02_14 : decode cJ0_isLatin1_aae02 14 = .ok (.goto 4, 3) := by decide +kernel
theorem dJ0_isLatin1_aae02_17 : decode cJ0_isLatin1_aae02 17 = .ok (.iconst 0, 1) := by decide +kernel
theorem dJ0_isLatin1_aae02_18 : decode cJ0_isLatin1_aae02 18 = .ok (.ireturn, 1) := by decide +kernel
theorem dJ0_checkIndex_df160_0 : decode cJ0_checkIndex_df160 0 = .ok (.iload_n 0, 1) := by decide +kernel
theorem dJ0_checkIndex_df160_1 : decode cJ0_checkIndex_df160 1 = .ok (.iload_n 1, 1) := by decide +kernel
theorem dJ0_checkIndex_df160_2 : decode cJ0_checkIndex_df160 2 = .ok (.getstatic 1053, 3) := by decide +kernel
theorem dJ0_checkIndex_df160_5 : decode cJ0_checkIndex_df160 5 = .ok (.invokestatic 1059, 3) := by decide +kernel
theorem dJ0_checkIndex_df160_8 : decode cJ0_checkIndex_df160 8 = .ok (.pop, 1) := by decide +kernel
theorem dJ0_checkIndex_df160_9 : decode cJ0_checkIndex_df160 9 = .ok (.return_, 1) := by decide +kernel
theorem dJ1_charAt_3b067_0 : decode cJ1_charAt_3b067 0 = .ok (.iload_n 1, 1) := by decide +kernel
theorem dJ1_charAt_3b067_1 : decode cJ1_charAt_3b067 1 = .ok (.aload_n 0, 1) := by decide +kernel
theorem dJ1_charAt_3b067_2 : decode cJ1_charAt_3b067 2 = .ok (.arraylength, 1) := by decide +kernel
theorem dJ1_charAt_3b067_3 : decode cJ1_charAt_3b067 3 = .ok (.invokestatic 9, 3) := by decide +kernel
theorem dJ1_charAt_3b067_6 : decode cJ1_charAt_3b067 6 = .ok (.aload_n 0, 1) := by decide +kernel
theorem dJ1_charAt_3b067_7 : decode cJ1_charAt_3b067 7 = .ok (.iload_n 1, 1) := by decide +kernel
theorem dJ1_charAt_3b067_8 : decode cJ1_charAt_3b067 8 = .ok (.baload, 1) := by decide +kernel
theorem dJ1_charAt_3b067_9 : decode cJ1_charAt_3b067 9 = .ok (.sipush 255, 3) := by decide +kernel
theorem dJ1_charAt_3b067_12 : decode cJ1_charAt_3b067 12 = .ok (.iand, 1) := by decide +kernel
theorem dJ1_charAt_3b067_13 : decode cJ1_charAt_3b067 13 = .ok (.i2c, 1) := by decide +kernel
theorem dJ1_charAt_3b067_14 : decode cJ1_charAt_3b067 14 = .ok (.ireturn, 1) := by decide +kernel
theorem dJ2_getChar_3b067_0 : decode cJ2_getChar_3b067 0 = .ok (.getstatic 44, 3) := by decide +kernel
theorem dJ2_getChar_3b067_3 : decode cJ2_getChar_3b067 3 = .ok (.ifCond .ne 25, 3) := by decide +kernel
theorem dJ2_getChar_3b067_6 : decode cJ2_getChar_3b067 6 = .ok (.iload_n 1, 1) := by decide +kernel
theorem dJ2_getChar_3b067_7 : decode cJ2_getChar_3b067 7 = .ok (.ifCond .lt 11, 3) := by decide +kernel
theorem dJ2_getChar_3b067_10 : decode cJ2_getChar_3b067 10 = .ok (.iload_n 1, 1) := by decide +kernel
theorem dJ2_getChar_3b067_11 : decode cJ2_getChar_3b067 11 = .ok (.aload_n 0, 1) := by decide +kernel
theorem dJ2_getChar_3b067_12 : decode cJ2_getChar_3b067 12 = .ok (.invokestatic 48, 3) := by decide +kernel
theorem dJ2_getChar_3b067_15 : decode cJ2_getChar_3b067 15 = .ok (.if_icmp .lt 13, 3) := by decide +kernel
theorem dJ2_getChar_3b067_18 : decode cJ2_getChar_3b067 18 = .ok (.new 52, 3) := by decide +kernel
theorem dJ2_getChar_3b067_21 : decode cJ2_getChar_3b067 21 = .ok (.dup, 1) := by decide +kernel
theorem dJ2_getChar_3b067_22 : decode cJ2_getChar_3b067 22 = .ok (.ldc 54, 2) := by decide +kernel
theorem dJ2_getChar_3b067_24 : decode cJ2_getChar_3b067 24 = .ok (.invokespecial 56, 3) := by decide +kernel
theorem dJ2_getChar_3b067_27 : decode cJ2_getChar_3b067 27 = .ok (.athrow, 1) := by decide +kernel
theorem dJ2_getChar_3b067_28 : decode cJ2_getChar_3b067 28 = .ok (.iload_n 1, 1) := by decide +kernel
theorem dJ2_getChar_3b067_29 : decode cJ2_getChar_3b067 29 = .ok (.iconst 1, 1) := by decide +kernel
theorem dJ2_getChar_3b067_30 : decode cJ2_getChar_3b067 30 = .ok (.ishl, 1) := by decide +kernel
theorem dJ2_getChar_3b067_31 : decode cJ2_getChar_3b067 31 = .ok (.istore_n 1, 1) := by decide +kernel
theorem dJ2_getChar_3b067_32 : decode cJ2_getChar_3b067 32 = .ok (.aload_n 0, 1) := by decide +kernel
theorem dJ2_getChar_3b067_33 : decode cJ2_getChar_3b067 33 = .ok (.iload_n 1, 1) := by decide +kernel
theorem dJ2_getChar_3b067_34 : decode cJ2_getChar_3b067 34 = .ok (.iinc 1 1, 3) := by decide +kernel
theorem dJ2_getChar_3b067_37 : decode cJ2_getChar_3b067 37 = .ok (.baload, 1) := by decide +kernel
theorem dJ2_getChar_3b067_38 : decode cJ2_getChar_3b067 38 = .ok (.sipush 255, 3) := by decide +kernel
theorem dJ2_getChar_3b067_41 : decode cJ2_getChar_3b067 41 = .ok (.iand, 1) := by decide +kernel
theorem dJ2_getChar_3b067_42 : decode cJ2_getChar_3b067 42 = .ok (.getstatic 59, 3) := by decide +kernel
theorem dJ2_getChar_3b067_45 : decode cJ2_getChar_3b067 45 = .ok (.ishl, 1) := by decide +kernel
theorem dJ2_getChar_3b067_46 : decode cJ2_getChar_3b067 46 = .ok (.aload_n 0, 1) := by decide +kernel
theorem dJ2_getChar_3b067_47 : decode cJ2_getChar_3b067 47 = .ok (.iload_n 1, 1) := by decide +kernel
theorem dJ2_getChar_3b067_48 : decode cJ2_getChar_3b067 48 = .ok (.baload, 1) := by decide +kernel
theorem dJ2_getChar_3b067_49 : decode cJ2_getChar_3b067 49 = .ok (.sipush 255, 3) := by decide +kernel
theorem dJ2_getChar_3b067_52 : decode cJ2_getChar_3b067 52 = .ok (.iand, 1) := by decide +kernel
theorem dJ2_getChar_3b067_53 : decode cJ2_getChar_3b067 53 = .ok (.getstatic 63, 3) := by decide +kernel
theorem dJ2_getChar_3b067_56 : decode cJ2_getChar_3b067 56 = .ok (.ishl, 1) := by decide +kernel
theorem dJ2_getChar_3b067_57 : decode cJ2_getChar_3b067 57 = .ok (.ior, 1) := by decide +kernel
theorem dJ2_getChar_3b067_58 : decode cJ2_getChar_3b067 58 = .ok (.i2c, 1) := by decide +kernel
theorem dJ2_getChar_3b067_59 : decode cJ2_getChar_3b067 59 = .ok (.ireturn, 1) := by decide +kernel
theorem dJ2_length_9d52b_0 : decode cJ2_length_9d52b 0 = .ok (.aload_n 0, 1) := by decide +kernel
theorem dJ2_length_9d52b_1 : decode cJ2_length_9d52b 1 = .ok (.arraylength, 1) := by decide +kernel
theorem dJ2_length_9d52b_2 : decode cJ2_length_9d52b 2 = .ok (.iconst 1, 1) := by decide +kernel
theorem dJ2_length_9d52b_3 : decode cJ2_length_9d52b 3 = .ok (.ishr, 1) := by decide +kernel
theorem dJ2_length_9d52b_4 : decode cJ2_length_9d52b 4 = .ok (.ireturn, 1) := by decide +kernel
theorem dJ2_charAt_3b067_0 : decode cJ2_charAt_3b067 0 = .ok (.iload_n 1, 1) := by decide +kernel
theorem dJ2_charAt_3b067_1 : decode cJ2_charAt_3b067 1 = .ok (.aload_n 0, 1) := by decide +kernel
theorem dJ2_charAt_3b067_2 : decode cJ2_charAt_3b067 2 = .ok (.invokestatic 67, 3) := by decide +kernel
theorem dJ2_charAt_3b067_5 : decode cJ2_charAt_3b067 5 = .ok (.aload_n 0, 1) := by decide +kernel
theorem dJ2_charAt_3b067_6 : decode cJ2_charAt_3b067 6 = .ok (.iload_n 1, 1) := by decide +kernel
theorem dJ2_charAt_3b067_7 : decode cJ2_charAt_3b067 7 = .ok (.invokestatic 71, 3) := by decide +kernel
theorem dJ2_charAt_3b067_10 : decode cJ2_charAt_3b067 10 = .ok (.ireturn, 1) := by decide +kernel
theorem dJ2_checkIndex_2214a_0 : decode cJ2_checkIndex_2214a 0 = .ok (.iload_n 0, 1) := by decide +kernel
theorem dJ2_checkIndex_2214a_1 : decode cJ2_checkIndex_2214a 1 = .ok (.aload_n 1, 1) := by decide +kernel
theorem dJ2_checkIndex_2214a_2 : decode cJ2_checkIndex_2214a 2 = .ok (.invokestatic 48, 3) := by decide +kernel
theorem dJ2_checkIndex_2214a_5 : decode cJ2_checkIndex_2214a 5 = .ok (.invokestatic 414, 3) := by decide +kernel
theorem dJ2_checkIndex_2214a_8 : decode cJ2_checkIndex_2214a 8 = .ok (.return_, 1) := by decide +kernel
theorem dJ7_rangeCheck_23922_0 : decode cJ7_rangeCheck_23922 0 = .ok (.iload_n 1, 1) := by decide +kernel
theorem dJ7_rangeCheck_23922_1 : decode cJ7_rangeCheck_23922 1 = .ok (.iload_n 2, 1) := by decide +kernel
theorem dJ7_rangeCheck_23922_2 : decode cJ7_rangeCheck_23922 2 = .ok (.if_icmp .le 44, 3) := by decide +kernel
theorem dJ7_rangeCheck_23922_5 : decode cJ7_rangeCheck_23922 5 = .ok (.new 43, 3) := by decide +kernel
theorem dJ7_rangeCheck_23922_8 : decode cJ7_rangeCheck_23922 8 = .ok (.dup, 1) := by decide +kernel
theorem dJ7_rangeCheck_23922_9 : decode cJ7_rangeCheck_23922 9 = .ok (.new 45, 3) := by decide +kernel
theorem dJ7_rangeCheck_23922_12 : decode cJ7_rangeCheck_23922 12 = .ok (.dup, 1) := by decide +kernel
theorem dJ7_rangeCheck_23922_13 : decode cJ7_rangeCheck_23922 13 = .ok (.invokespecial 47, 3) := by decide +kernel
theorem dJ7_rangeCheck_23922_16 : decode cJ7_rangeCheck_23922 16 = .ok (.ldc 48, 2) := by decide +kernel
theorem dJ7_rangeCheck_23922_18 : decode cJ7_rangeCheck_23922 18 = .ok (.invokevirtual 50, 3) := by decide +kernel
theorem dJ7_rangeCheck_23922_21 : decode cJ7_rangeCheck_23922 21 = .ok (.iload_n 1, 1) := by decide +kernel
theorem dJ7_rangeCheck_23922_22 : decode cJ7_rangeCheck_23922 22 = .ok (.invokevirtual 54, 3) := by decide +kernel
theorem dJ7_rangeCheck_23922_25 : decode cJ7_rangeCheck_23922 25 = .ok (.ldc 57, 2) := by decide +kernel
theorem dJ7_rangeCheck_23922_27 : decode cJ7_rangeCheck_23922 27 = .ok (.invokevirtual 50, 3) := by decide +kernel
theorem dJ7_rangeCheck_23922_30 : decode cJ7_rangeCheck_23922 30 = .ok (.iload_n 2, 1) := by decide +kernel
theorem dJ7_rangeCheck_23922_31 : decode cJ7_rangeCheck_23922 31 = .ok (.invokevirtual 54, 3) := by decide +kernel
theorem dJ7_rangeCheck_23922_34 : decode cJ7_rangeCheck_23922 34 = .ok (.ldc 59, 2) := by decide +kernel
theorem dJ7_rangeCheck_23922_36 : decode cJ7_rangeCheck_23922 36 = .ok (.invokevirtual 50, 3) := by decide +kernel
theorem dJ7_rangeCheck_23922_39 : decode cJ7_rangeCheck_23922 39 = .ok (.invokevirtual 61, 3) := by decide +kernel
theorem dJ7_rangeCheck_23922_42 : decode cJ7_rangeCheck_23922 42 = .ok (.invokespecial 65, 3) := by decide +kernel
theorem dJ7_rangeCheck_23922_45 : decode cJ7_rangeCheck_23922 45 = .ok (.athrow, 1) := by decide +kernel
theorem dJ7_rangeCheck_23922_46 : decode cJ7_rangeCheck_23922 46 = .ok (.iload_n 1, 1) := by decide +kernel
theorem dJ7_rangeCheck_23922_47 : decode cJ7_rangeCheck_23922 47 = .ok (.ifCond .ge 12, 3) := by decide +kernel
theorem dJ7_rangeCheck_23922_50 : decode cJ7_rangeCheck_23922 50 = .ok (.new 68, 3) := by decide +kernel
theorem dJ7_rangeCheck_23922_53 : decode cJ7_rangeCheck_23922 53 = .ok (.dup, 1) := by decide +kernel
theorem dJ7_rangeCheck_23922_54 : decode cJ7_rangeCheck_23922 54 = .ok (.iload_n 1, 1) := by decide +kernel
theorem dJ7_rangeCheck_23922_55 : decode cJ7_rangeCheck_23922 55 = .ok (.invokespecial 70, 3) := by decide +kernel
theorem dJ7_rangeCheck_23922_58 : decode cJ7_rangeCheck_23922 58 = .ok (.athrow, 1) := by decide +kernel
theorem dJ7_rangeCheck_23922_59 : decode cJ7_rangeCheck_23922 59 = .ok (.iload_n 2, 1) := by decide +kernel
theorem dJ7_rangeCheck_23922_60 : decode cJ7_rangeCheck_23922 60 = .ok (.iload_n 0, 1) := by decide +kernel
theorem dJ7_rangeCheck_23922_61 : decode cJ7_rangeCheck_23922 61 = .ok (.if_icmp .le 12, 3) := by decide +kernel
theorem dJ7_rangeCheck_23922_64 : decode cJ7_rangeCheck_23922 64 = .ok (.new 68, 3) := by decide +kernel
theorem dJ7_rangeCheck_23922_67 : decode cJ7_rangeCheck_23922 67 = .ok (.dup, 1) := by decide +kernel
theorem dJ7_rangeCheck_23922_68 : decode cJ7_rangeCheck_23922 68 = .ok (.iload_n 2, 1) := by decide +kernel
theorem dJ7_rangeCheck_23922_69 : decode cJ7_rangeCheck_23922 69 = .ok (.invokespecial 70, 3) := by decide +kernel
theorem dJ7_rangeCheck_23922_72 : decode cJ7_rangeCheck_23922 72 = .ok (.athrow, 1) := by decide +kernel
theorem dJ7_rangeCheck_23922_73 : decode cJ7_rangeCheck_23922 73 = .ok (.return_, 1) := by decide +kernel
theorem dJ7_fill_53178_0 : decode cJ7_fill_53178 0 = .ok (.iconst 0, 1) := by decide +kernel
theorem dJ7_fill_53178_1 : decode cJ7_fill_53178 1 = .ok (.istore_n 2, 1) := by decide +kernel
theorem dJ7_fill_53178_2 : decode cJ7_fill_53178 2 = .ok (.aload_n 0, 1) := by decide +kernel
theorem dJ7_fill_53178_3 : decode cJ7_fill_53178 3 = .ok (.arraylength, 1) := by decide +kernel
theorem dJ7_fill_53178_4 : decode cJ7_fill_53178 4 = .ok (.istore_n 3, 1) := by decide +kernel
theorem dJ7_fill_53178_5 : decode cJ7_fill_53178 5 = .ok (.iload_n 2, 1) := by decide +kernel
theorem dJ7_fill_53178_6 : decode cJ7_fill_53178 6 = .ok (.iload_n 3, 1) := by decide +kernel
theorem dJ7_fill_53178_7 : decode cJ7_fill_53178 7 = .ok (.if_icmp .ge 13, 3) := by decide +kernel
theorem dJ7_fill_53178_10 : decode cJ7_fill_53178 10 = .ok (.aload_n 0, 1) := by decide +kernel
theorem dJ7_fill_53178_11 : decode cJ7_fill_53178 11 = .ok (.iload_n 2, 1) := by decide +kernel
theorem dJ7_fill_53178_12 : decode cJ7_fill_53178 12 = .ok (.iload_n 1, 1) := by decide +kernel
theorem dJ7_fill_53178_13 : decode cJ7_fill_53178 13 = .ok (.iastore, 1) := by decide +kernel
theorem dJ7_fill_53178_14 : decode cJ7_fill_53178 14 = .ok (.iinc 2 1, 3) := by decide +kernel
theorem dJ7_fill_53178_17 : decode cJ7_fill_53178 17 = .ok (.goto (-12), 3) := by decide +kernel
theorem dJ7_fill_53178_20 : decode cJ7_fill_53178 20 = .ok (.return_, 1) := by decide +kernel
theorem dJ7_fill_fda19_0 : decode cJ7_fill_fda19 0 = .ok (.aload_n 0, 1) := by decide +kernel
theorem dJ7_fill_fda19_1 : decode cJ7_fill_fda19 1 = .ok (.arraylength, 1) := by decide +kernel
theorem dJ7_fill_fda19_2 : decode cJ7_fill_fda19 2 = .ok (.iload_n 1, 1) := by decide +kernel
theorem dJ7_fill_fda19_3 : decode cJ7_fill_fda19 3 = .ok (.iload_n 2, 1) := by decide +kernel
theorem dJ7_fill_fda19_4 : decode cJ7_fill_fda19 4 = .ok (.invokestatic 13, 3) := by decide +kernel
theorem dJ7_fill_fda19_7 : decode cJ7_fill_fda19 7 = .ok (.iload_n 1, 1) := by decide +kernel
theorem dJ7_fill_fda19_8 : decode cJ7_fill_fda19 8 = .ok (.istore 4, 2) := by decide +kernel
theorem dJ7_fill_fda19_10 : decode cJ7_fill_fda19 10 = .ok (.iload 4, 2) := by decide +kernel
theorem dJ7_fill_fda19_12 : decode cJ7_fill_fda19 12 = .ok (.iload_n 2, 1) := by decide +kernel
theorem dJ7_fill_fda19_13 : decode cJ7_fill_fda19 13 = .ok (.if_icmp .ge 14, 3) := by decide +kernel
theorem dJ7_fill_fda19_16 : decode cJ7_fill_fda19 16 = .ok (.aload_n 0, 1) := by decide +kernel
theorem dJ7_fill_fda19_17 : decode cJ7_fill_fda19 17 = .ok (.iload 4, 2) := by decide +kernel
theorem dJ7_fill_fda19_19 : decode cJ7_fill_fda19 19 = .ok (.iload_n 3, 1) := by decide +kernel
theorem dJ7_fill_fda19_20 : decode cJ7_fill_fda19 20 = .ok (.iastore, 1) := by decide +kernel
theorem dJ7_fill_fda19_21 : decode cJ7_fill_fda19 21 = .ok (.iinc 4 1, 3) := by decide +kernel
theorem dJ7_fill_fda19_24 : decode cJ7_fill_fda19 24 = .ok (.goto (-14), 3) := by decide +kernel
theorem dJ7_fill_fda19_27 : decode cJ7_fill_fda19 27 = .ok (.return_, 1) := by decide +kernel
theorem dJ7_checkLength_df160_0 : decode cJ7_checkLength_df160 0 = .ok (.iload_n 1, 1) := by decide +kernel
theorem dJ7_checkLength_df160_1 : decode cJ7_checkLength_df160 1 = .ok (.iload_n 0, 1) := by decide +kernel
theorem dJ7_checkLength_df160_2 : decode cJ7_checkLength_df160 2 = .ok (.if_icmp .ge 35, 3) := by decide +kernel
theorem dJ7_checkLength_df160_5 : decode cJ7_checkLength_df160 5 = .ok (.new 43, 3) := by decide +kernel
theorem dJ7_checkLength_df160_8 : decode cJ7_checkLength_df160 8 = .ok (.dup, 1) := by decide +kernel
theorem dJ7_checkLength_df160_9 : decode cJ7_checkLength_df160 9 = .ok (.new 45, 3) := by decide +kernel
theorem dJ7_checkLength_df160_12 : decode cJ7_checkLength_df160 12 = .ok (.dup, 1) := by decide +kernel
theorem dJ7_checkLength_df160_13 : decode cJ7_checkLength_df160 13 = .ok (.invokespecial 47, 3) := by decide +kernel
theorem dJ7_checkLength_df160_16 : decode cJ7_checkLength_df160 16 = .ok (.iload_n 0, 1) := by decide +kernel
theorem dJ7_checkLength_df160_17 : decode cJ7_checkLength_df160 17 = .ok (.invokevirtual 54, 3) := by decide +kernel
theorem dJ7_checkLength_df160_20 : decode cJ7_checkLength_df160 20 = .ok (.ldc_w 337, 3) := by decide +kernel
theorem dJ7_checkLength_df160_23 : decode cJ7_checkLength_df160 23 = .ok (.invokevirtual 50, 3) := by decide +kernel
theorem dJ7_checkLength_df160_26 : decode cJ7_checkLength_df160 26 = .ok (.iload_n 1, 1) := by decide +kernel
theorem dJ7_checkLength_df160_27 : decode cJ7_checkLength_df160 27 = .ok (.invokevirtual 54, 3) := by decide +kernel
theorem dJ7_checkLength_df160_30 : decode cJ7_checkLength_df160 30 = .ok (.invokevirtual 61, 3) := by decide +kernel
theorem dJ7_checkLength_df160_33 : decode cJ7_checkLength_df160 33 = .ok (.invokespecial 65, 3) := by decide +kernel
theorem dJ7_checkLength_df160_36 : decode cJ7_checkLength_df160 36 = .ok (.athrow, 1) := by decide +kernel
theorem dJ7_checkLength_df160_37 : decode cJ7_checkLength_df160 37 = .ok (.return_, 1) := by decide +kernel
theorem dJ7_copyOfRange_feecc_0 : decode cJ7_copyOfRange_feecc 0 = .ok (.iload_n 1, 1) := by decide +kernel
theorem dJ7_copyOfRange_feecc_1 : decode cJ7_copyOfRange_feecc 1 = .ok (.ifCond .ne 9, 3) := by decide +kernel
theorem dJ7_copyOfRange_feecc_4 : decode cJ7_copyOfRange_feecc 4 = .ok (.iload_n 2, 1) := by decide +kernel
theorem dJ7_copyOfRange_feecc_5 : decode cJ7_copyOfRange_feecc 5 = .ok (.aload_n 0, 1) := by decide +kernel
theorem dJ7_copyOfRange_feecc_6 : decode cJ7_copyOfRange_feecc 6 = .ok (.arraylength, 1) := by decide +kernel
theorem dJ7_copyOfRange_feecc_7 : decode cJ7_copyOfRange_feecc 7 = .ok (.if_icmp .eq 10, 3) := by decide +kernel
theorem dJ7_copyOfRange_feecc_10 : decode cJ7_copyOfRange_feecc 10 = .ok (.aload_n 0, 1) := by decide +kernel
theorem dJ7_copyOfRange_feecc_11 : decode cJ7_copyOfRange_feecc 11 = .ok (.iload_n 1, 1) := by decide +kernel
theorem dJ7_copyOfRange_feecc_12 : decode cJ7_copyOfRange_feecc 12 = .ok (.iload_n 2, 1) := by decide +kernel
theorem dJ7_copyOfRange_feecc_13 : decode cJ7_copyOfRange_feecc 13 = .ok (.invokestatic 351, 3) := by decide +kernel
theorem dJ7_copyOfRange_feecc_16 : decode cJ7_copyOfRange_feecc 16 = .ok (.areturn, 1) := by decide +kernel
theorem dJ7_copyOfRange_feecc_17 : decode cJ7_copyOfRange_feecc 17 = .ok (.aload_n 0, 1) := by decide +kernel
theorem dJ7_copyOfRange_feecc_18 : decode cJ7_copyOfRange_feecc 18 = .ok (.invokevirtual 316, 3) := by decide +kernel
theorem dJ7_copyOfRange_feecc_21 : decode cJ7_copyOfRange_feecc 21 = .ok (.checkcast 317, 3) := by decide +kernel
theorem dJ7_copyOfRange_feecc_24 : decode cJ7_copyOfRange_feecc 24 = .ok (.areturn, 1) := by decide +kernel
theorem dJ7_copyOfRangeInt_feecc_0 : decode cJ7_copyOfRangeInt_feecc 0 = .ok (.iload_n 1, 1) := by decide +kernel
theorem dJ7_copyOfRangeInt_feecc_1 : decode cJ7_copyOfRangeInt_feecc 1 = .ok (.iload_n 2, 1) := by decide +kernel
theorem dJ7_copyOfRangeInt_feecc_2 : decode cJ7_copyOfRangeInt_feecc 2 = .ok (.invokestatic 343, 3) := by decide +kernel
theorem dJ7_copyOfRangeInt_feecc_5 : decode cJ7_copyOfRangeInt_feecc 5 = .ok (.iload_n 2, 1) := by decide +kernel
theorem dJ7_copyOfRangeInt_feecc_6 : decode cJ7_copyOfRangeInt_feecc 6 = .ok (.iload_n 1, 1) := by decide +kernel
theorem dJ7_copyOfRangeInt_feecc_7 : decode cJ7_copyOfRangeInt_feecc 7 = .ok (.isub, 1) := by decide +kernel
theorem dJ7_copyOfRangeInt_feecc_8 : decode cJ7_copyOfRangeInt_feecc 8 = .ok (.istore_n 3, 1) := by decide +kernel
theorem dJ7_copyOfRangeInt_feecc_9 : decode cJ7_copyOfRangeInt_feecc 9 = .ok (.iload_n 3, 1) := by decide +kernel
theorem dJ7_copyOfRangeInt_feecc_10 : decode cJ7_copyOfRangeInt_feecc 10 = .ok (.newarray .int, 2) := by decide +kernel
theorem dJ7_copyOfRangeInt_feecc_12 : decode cJ7_copyOfRangeInt_feecc 12 = .ok (.astore 4, 2) := by decide +kernel
theorem dJ7_copyOfRangeInt_feecc_14 : decode cJ7_copyOfRangeInt_feecc 14 = .ok (.aload_n 0, 1) := by decide +kernel
theorem dJ7_copyOfRangeInt_feecc_15 : decode cJ7_copyOfRangeInt_feecc 15 = .ok (.iload_n 1, 1) := by decide +kernel
theorem dJ7_copyOfRangeInt_feecc_16 : decode cJ7_copyOfRangeInt_feecc 16 = .ok (.aload 4, 2) := by decide +kernel
theorem dJ7_copyOfRangeInt_feecc_18 : decode cJ7_copyOfRangeInt_feecc 18 = .ok (.iconst 0, 1) := by decide +kernel
theorem dJ7_copyOfRangeInt_feecc_19 : decode cJ7_copyOfRangeInt_feecc 19 = .ok (.aload_n 0, 1) := by decide +kernel
theorem dJ7_copyOfRangeInt_feecc_20 : decode cJ7_copyOfRangeInt_feecc 20 = .ok (.arraylength, 1) := by decide +kernel
theorem dJ7_copyOfRangeInt_feecc_21 : decode cJ7_copyOfRangeInt_feecc 21 = .ok (.iload_n 1, 1) := by decide +kernel
theorem dJ7_copyOfRangeInt_feecc_22 : decode cJ7_copyOfRangeInt_feecc 22 = .ok (.isub, 1) := by decide +kernel
theorem dJ7_copyOfRangeInt_feecc_23 : decode cJ7_copyOfRangeInt_feecc 23 = .ok (.iload_n 3, 1) := by decide +kernel
theorem dJ7_copyOfRangeInt_feecc_24 : decode cJ7_copyOfRangeInt_feecc 24 = .ok (.invokestatic 304, 3) := by decide +kernel
theorem dJ7_copyOfRangeInt_feecc_27 : decode cJ7_copyOfRangeInt_feecc 27 = .ok (.invokestatic 150, 3) := by decide +kernel
theorem dJ7_copyOfRangeInt_feecc_30 : decode cJ7_copyOfRangeInt_feecc 30 = .ok (.aload 4, 2) := by decide +kernel
theorem dJ7_copyOfRangeInt_feecc_32 : decode cJ7_copyOfRangeInt_feecc 32 = .ok (.areturn, 1) := by decide +kernel
theorem dJ3_checkIndex_8e157_0 : decode cJ3_checkIndex_8e157 0 = .ok (.iload_n 0, 1) := by decide +kernel
theorem dJ3_checkIndex_8e157_1 : decode cJ3_checkIndex_8e157 1 = .ok (.ifCond .lt 8, 3) := by decide +kernel
theorem dJ3_checkIndex_8e157_4 : decode cJ3_checkIndex_8e157 4 = .ok (.iload_n 0, 1) := by decide +kernel
theorem dJ3_checkIndex_8e157_5 : decode cJ3_checkIndex_8e157 5 = .ok (.iload_n 1, 1) := by decide +kernel
theorem dJ3_checkIndex_8e157_6 : decode cJ3_checkIndex_8e157 6 = .ok (.if_icmp .lt 10, 3) := by decide +kernel
theorem dJ3_checkIndex_8e157_9 : decode cJ3_checkIndex_8e157 9 = .ok (.aload_n 2, 1) := by decide +kernel
theorem dJ3_checkIndex_8e157_10 : decode cJ3_checkIndex_8e157 10 = .ok (.iload_n 0, 1) := by decide +kernel
theorem dJ3_checkIndex_8e157_11 : decode cJ3_checkIndex_8e157 11 = .ok (.iload_n 1, 1) := by decide +kernel
theorem dJ3_checkIndex_8e157_12 : decode cJ3_checkIndex_8e157 12 = .ok (.invokestatic 95, 3) := by decide +kernel
theorem dJ3_checkIndex_8e157_15 : decode cJ3_checkIndex_8e157 15 = .ok (.athrow, 1) := by decide +kernel
theorem dJ3_checkIndex_8e157_16 : decode cJ3_checkIndex_8e157 16 = .ok (.iload_n 0, 1) := by decide +kernel
theorem dJ3_checkIndex_8e157_17 : decode cJ3_checkIndex_8e157 17 = .ok (.ireturn, 1) := by decide +kernel
theorem dL_law_0 : decode cL_law 0 = .ok (.new 7, 3) := by decide +kernel
theorem dL_law_3 : decode cL_law 3 = .ok (.dup, 1) := by decide +kernel
theorem dL_law_4 : decode cL_law 4 = .ok (.invokespecial 9, 3) := by decide +kernel
theorem dL_law_7 : decode cL_law 7 = .ok (.astore_n 1, 1) := by decide +kernel
theorem dL_law_8 : decode cL_law 8 = .ok (.new 10, 3) := by decide +kernel
theorem dL_law_11 : decode cL_law 11 = .ok (.dup, 1) := by decide +kernel
theorem dL_law_12 : decode cL_law 12 = .ok (.invokespecial 12, 3) := by decide +kernel
theorem dL_law_15 : decode cL_law 15 = .ok (.astore_n 2, 1) := by decide +kernel
theorem dL_law_16 : decode cL_law 16 = .ok (.iconst 0, 1) := by decide +kernel
theorem dL_law_17 : decode cL_law 17 = .ok (.istore_n 3, 1) := by decide +kernel
theorem dL_law_18 : decode cL_law 18 = .ok (.iload_n 3, 1) := by decide +kernel
theorem dL_law_19 : decode cL_law 19 = .ok (.aload_n 0, 1) := by decide +kernel
theorem dL_law_20 : decode cL_law 20 = .ok (.arraylength, 1) := by decide +kernel
theorem dL_law_21 : decode cL_law 21 = .ok (.bipush 6, 2) := by decide +kernel
theorem dL_law_23 : decode cL_law 23 = .ok (.isub, 1) := by decide +kernel
theorem dL_law_24 : decode cL_law 24 = .ok (.if_icmp .gt 959, 3) := by decide +kernel
theorem dL_law_27 : decode cL_law 27 = .ok (.aload_n 0, 1) := by decide +kernel
theorem dL_law_28 : decode cL_law 28 = .ok (.iload_n 3, 1) := by decide +kernel
theorem dL_law_29 : decode cL_law 29 = .ok (.iaload, 1) := by decide +kernel
theorem dL_law_30 : decode cL_law 30 = .ok (.bipush 31, 2) := by decide +kernel
theorem dL_law_32 : decode cL_law 32 = .ok (.iand, 1) := by decide +kernel
theorem dL_law_33 : decode cL_law 33 = .ok (.tableswitch 944 0 26 #[123, 166, 209, 272, 295, 358, 371, 384, 417, 440, 463, 496, 529, 562, 575, 608, 641, 674, 717, 750, 773, 796, 819, 852, 885, 908, 931], 123) := by decide +kernel
theorem dL_law_156 : decode cL_law 156 = .ok (.aload_n 1, 1) := by decide +kernel
theorem dL_law_157 : decode cL_law 157 = .ok (.aload_n 0, 1) := by decide +kernel
theorem dL_law_158 : decode cL_law 158 = .ok (.iload_n 3, 1) := by decide +kernel
theorem dL_law_159 : decode cL_law 159 = .ok (.iconst 1, 1) := by decide +kernel
theorem dL_law_160 : decode cL_law 160 = .ok (.iadd, 1) := by decide +kernel
theorem dL_law_161 : decode cL_law 161 = .ok (.iaload, 1) := by decide +kernel
theorem dL_law_162 : decode cL_law 162 = .ok (.aload_n 0, 1) := by decide +kernel
theorem dL_law_163 : decode cL_law 163 = .ok (.iload_n 3, 1) := by decide +kernel
theorem dL_law_164 : decode cL_law 164 = .ok (.iconst 2, 1) := by decide +kernel
theorem dL_law_165 : decode cL_law 165 = .ok (.iadd, 1) := by decide +kernel
theorem dL_law_166 : decode cL_law 166 = .ok (.iaload, 1) := by decide +kernel
theorem dL_law_167 : decode cL_law 167 = .ok (.aload_n 0, 1) := by decide +kernel
theorem dL_law_168 : decode cL_law 168 = .ok (.iload_n 3, 1) := by decide +kernel
theorem dL_law_169 : decode cL_law 169 = .ok (.iconst 3, 1) := by decide +kernel
theorem dL_law_170 : decode cL_law 170 = .ok (.iadd, 1) := by decide +kernel
theorem dL_law_171 : decode cL_law 171 = .ok (.iaload, 1) := by decide +kernel
theorem dL_law_172 : decode cL_law 172 = .ok (.invokevirtual 13, 3) := by decide +kernel
theorem dL_law_175 : decode cL_law 175 = .ok (.aload_n 2, 1) := by decide +kernel
theorem dL_law_176 : decode cL_law 176 = .ok (.aload_n 0, 1) := by decide +kernel
theorem dL_law_177 : decode cL_law 177 = .ok (.iload_n 3, 1) := by decide +kernel
theorem dL_law_178 : decode cL_law 178 = .ok (.iconst 1, 1) := by decide +kernel
theorem dL_law_179 : decode cL_law 179 = .ok (.iadd, 1) := by decide +kernel
theorem dL_law_180 : decode cL_law 180 = .ok (.iaload, 1) := by decide +kernel
theorem dL_law_181 : decode cL_law 181 = .ok (.aload_n 0, 1) := by decide +kernel
theorem dL_law_182 : decode cL_law 182 = .ok (.iload_n 3, 1) := by decide +kernel
theorem dL_law_183 : decode cL_law 183 = .ok (.iconst 2, 1) := by decide +kernel
theorem dL_law_184 : decode cL_law 184 = .ok (.iadd, 1) := by decide +kernel
theorem dL_law_185 : decode cL_law 185 = .ok (.iaload, 1) := by decide +kernel
theorem dL_law_186 : decode cL_law 186 = .ok (.aload_n 0, 1) := by decide +kernel
theorem dL_law_187 : decode cL_law 187 = .ok (.iload_n 3, 1) := by decide +kernel
theorem dL_law_188 : decode cL_law 188 = .ok (.iconst 3, 1) := by decide +kernel
theorem dL_law_189 : decode cL_law 189 = .ok (.iadd, 1) := by decide +kernel
theorem dL_law_190 : decode cL_law 190 = .ok (.iaload, 1) := by decide +kernel
theorem dL_law_191 : decode cL_law 191 = .ok (.invokevirtual 17, 3) := by decide +kernel
theorem dL_law_194 : decode cL_law 194 = .ok (.if_icmp .eq 783, 3) := by decide +kernel
theorem dL_law_197 : decode cL_law 197 = .ok (.iconst 0, 1) := by decide +kernel
theorem dL_law_198 : decode cL_law 198 = .ok (.ireturn, 1) := by decide +kernel
theorem dL_law_199 : decode cL_law 199 = .ok (.aload_n 1, 1) := by decide +kernel
theorem dL_law_200 : decode cL_law 200 = .ok (.aload_n 0, 1) := by decide +kernel
theorem dL_law_201 : decode cL_law 201 = .ok (.iload_n 3, 1) := by decide +kernel
theorem dL_law_202 : decode cL_law 202 = .ok (.iconst 1, 1) := by decide +kernel
theorem dL_law_203 : decode cL_law 203 = .ok (.iadd, 1) := by decide +kernel
theorem dL_law_204 : decode cL_law 204 = .ok (.iaload, 1) := by decide +kernel
theorem dL_law_205 : decode cL_law 205 = .ok (.aload_n 0, 1) := by decide +kernel
theorem dL_law_206 : decode cL_law 206 = .ok (.iload_n 3, 1) := by decide +kernel
theorem dL_law_207 : decode cL_law 207 = .ok (.iconst 2, 1) := by decide +kernel
theorem dL_law_208 : decode cL_law 208 = .ok (.iadd, 1) := by decide +kernel
theorem dL_law_209 : decode cL_law 209 = .ok (.iaload, 1) := by decide +kernel
theorem dL_law_210 : decode cL_law 210 = .ok (.aload_n 0, 1) := by decide +kernel
theorem dL_law_211 : decode cL_law 211 = .ok (.iload_n 3, 1) := by decide +kernel
theorem dL_law_212 : decode cL_law 212 = .ok (.iconst 3, 1) := by decide +kernel
theorem dL_law_213 : decode cL_law 213 = .ok (.iadd, 1) := by decide +kernel
theorem dL_law_214 : decode cL_law 214 = .ok (.iaload, 1) := by decide +kernel
theorem dL_law_215 : decode cL_law 215 = .ok (.invokevirtual 18, 3) := by decide +kernel
theorem dL_law_218 : decode cL_law 218 = .ok (.aload_n 2, 1) := by decide +kernel
theorem dL_law_219 : decode cL_law 219 = .ok (.aload_n 0, 1) := by decide +kernel
theorem dL_law_220 : decode cL_law 220 = .ok (.iload_n 3, 1) := by decide +kernel
theorem dL_law_221 : decode cL_law 221 = .ok (.iconst 1, 1) := by decide +kernel
theorem dL_law_222 : decode cL_law 222 = .ok (.iadd, 1) := by decide +kernel
theorem dL_law_223 : decode cL_law 223 = .ok (.iaload, 1) := by decide +kernel
theorem dL_law_224 : decode cL_law 224 = .ok (.aload_n 0, 1) := by decide +kernel
theorem dL_law_225 : decode cL_law 225 = .ok (.iload_n 3, 1) := by decide +kernel
theorem dL_law_226 : decode cL_law 226 = .ok (.iconst 2, 1) := by decide +kernel
theorem dL_law_227 : decode cL_law 227 = .ok (.iadd, 1) := by decide +kernel
theorem dL_law_228 : decode cL_law 228 = .ok (.iaload, 1) := by decide +kernel
theorem dL_law_229 : decode cL_law 229 = .ok (.aload_n 0, 1) := by decide +kernel
theorem dL_law_230 : decode cL_law 230 = .ok (.iload_n 3, 1) := by decide +kernel
theorem dL_law_231 : decode cL_law 231 = .ok (.iconst 3, 1) := by decide +kernel
theorem dL_law_232 : decode cL_law 232 = .ok (.iadd, 1) := by decide +kernel
theorem dL_law_233 : decode cL_law 233 = .ok (.iaload, 1) := by decide +kernel
theorem dL_law_234 : decode cL_law 234 = .ok (.invokevirtual 21, 3) := by decide +kernel
theorem dL_law_237 : decode cL_law 237 = .ok (.if_icmp .eq 740, 3) := by decide +kernel
theorem dL_law_240 : decode cL_law 240 = .ok (.iconst 0, 1) := by decide +kernel
theorem dL_law_241 : decode cL_law 241 = .ok (.ireturn, 1) := by decide +kernel
theorem dL_law_242 : decode cL_law 242 = .ok (.aload_n 1, 1) := by decide +kernel
theorem dL_law_243 : decode cL_law 243 = .ok (.aload_n 0, 1) := by decide +kernel
theorem dL_law_244 : decode cL_law 244 = .ok (.iload_n 3, 1) := by decide +kernel
theorem dL_law_245 : decode cL_law 245 = .ok (.iconst 1, 1) := by decide +kernel
theorem dL_law_246 : decode cL_law 246 = .ok (.iadd, 1) := by decide +kernel
theorem dL_law_247 : decode cL_law 247 = .ok (.iaload, 1) := by decide +kernel
theorem dL_law_248 : decode cL_law 248 = .ok (.aload_n 0, 1) := by decide +kernel
theorem dL_law_249 : decode cL_law 249 = .ok (.iload_n 3, 1) := by decide +kernel
theorem dL_law_250 : decode cL_law 250 = .ok (.iconst 2, 1) := by decide +kernel
theorem dL_law_251 : decode cL_law 251 = .ok (.iadd, 1) := by decide +kernel
theorem dL_law_252 : decode cL_law 252 = .ok (.iaload, 1) := by decide +kernel
theorem dL_law_253 : decode cL_law 253 = .ok (.aload_n 0, 1) := by decide +kernel
theorem dL_law_254 : decode cL_law 254 = .ok (.iload_n 3, 1) := by decide +kernel
theorem dL_law_255 : decode cL_law 255 = .ok (.iconst 3, 1) := by decide +kernel
theorem dL_law_256 : decode cL_law 256 = .ok (.iadd, 1) := by decide +kernel
theorem dL_law_257 : decode cL_law 257 = .ok (.iaload, 1) := by decide +kernel
theorem dL_law_258 : decode cL_law 258 = .ok (.aload_n 0, 1) := by decide +kernel
theorem dL_law_259 : decode cL_law 259 = .ok (.iload_n 3, 1) := by decide +kernel
theorem dL_law_260 : decode cL_law 260 = .ok (.iconst 4, 1) := by decide +kernel
theorem dL_law_261 : decode cL_law 261 = .ok (.iadd, 1) := by decide +kernel
theorem dL_law_262 : decode cL_law 262 = .ok (.iaload, 1) := by decide +kernel
theorem dL_law_263 : decode cL_law 263 = .ok (.aload_n 0, 1) := by decide +kernel
theorem dL_law_264 : decode cL_law 264 = .ok (.iload_n 3, 1) := by decide +kernel
theorem dL_law_265 : decode cL_law 265 = .ok (.iconst 5, 1) := by decide +kernel
theorem dL_law_266 : decode cL_law 266 = .ok (.iadd, 1) := by decide +kernel
theorem dL_law_267 : decode cL_law 267 = .ok (.iaload, 1) := by decide +kernel
theorem dL_law_268 : decode cL_law 268 = .ok (.invokevirtual 22, 3) := by decide +kernel
theorem dL_law_271 : decode cL_law 271 = .ok (.aload_n 2, 1) := by decide +kernel
theorem dL_law_272 : decode cL_law 272 = .ok (.aload_n 0, 1) := by decide +kernel
theorem dL_law_273 : decode cL_law 273 = .ok (.iload_n 3, 1) := by decide +kernel
theorem dL_law_274 : decode cL_law 274 = .ok (.iconst 1, 1) := by decide +kernel
theorem dL_law_275 : decode cL_law 275 = .ok (.iadd, 1) := by decide +kernel
theorem dL_law_276 : decode cL_law 276 = .ok (.iaload, 1) := by decide +kernel
theorem dL_law_277 : decode cL_law 277 = .ok (.aload_n 0, 1) := by decide +kernel
theorem dL_law_278 : decode cL_law 278 = .ok (.iload_n 3, 1) := by decide +kernel
theorem dL_law_279 : decode cL_law 279 = .ok (.iconst 2, 1) := by decide +kernel
theorem dL_law_280 : decode cL_law 280 = .ok (.iadd, 1) := by decide +kernel
theorem dL_law_281 : decode cL_law 281 = .ok (.iaload, 1) := by decide +kernel
theorem dL_law_282 : decode cL_law 282 = .ok (.aload_n 0, 1) := by decide +kernel
theorem dL_law_283 : decode cL_law 283 = .ok (.iload_n 3, 1) := by decide +kernel
theorem dL_law_284 : decode cL_law 284 = .ok (.iconst 3, 1) := by decide +kernel
theorem dL_law_285 : decode cL_law 285 = .ok (.iadd, 1) := by decide +kernel
theorem dL_law_286 : decode cL_law 286 = .ok (.iaload, 1) := by decide +kernel
theorem dL_law_287 : decode cL_law 287 = .ok (.aload_n 0, 1) := by decide +kernel
theorem dL_law_288 : decode cL_law 288 = .ok (.iload_n 3, 1) := by decide +kernel
theorem dL_law_289 : decode cL_law 289 = .ok (.iconst 4, 1) := by decide +kernel
theorem dL_law_290 : decode cL_law 290 = .ok (.iadd, 1) := by decide +kernel
theorem dL_law_291 : decode cL_law 291 = .ok (.iaload, 1) := by decide +kernel
theorem dL_law_292 : decode cL_law 292 = .ok (.aload_n 0, 1) := by decide +kernel
theorem dL_law_293 : decode cL_law 293 = .ok (.iload_n 3, 1) := by decide +kernel
theorem dL_law_294 : decode cL_law 294 = .ok (.iconst 5, 1) := by decide +kernel
theorem dL_law_295 : decode cL_law 295 = .ok (.iadd, 1) := by decide +kernel
theorem dL_law_296 : decode cL_law 296 = .ok (.iaload, 1) := by decide +kernel
theorem dL_law_297 : decode cL_law 297 = .ok (.invokevirtual 26, 3) := by decide +kernel
theorem dL_law_300 : decode cL_law 300 = .ok (.if_icmp .eq 677, 3) := by decide +kernel
theorem dL_law_303 : decode cL_law 303 = .ok (.iconst 0, 1) := by decide +kernel
theorem dL_law_304 : decode cL_law 304 = .ok (.ireturn, 1) := by decide +kernel
theorem dL_law_305 : decode cL_law 305 = .ok (.aload_n 1, 1) := by decide +kernel
theorem dL_law_306 : decode cL_law 306 = .ok (.aload_n 0, 1) := by decide +kernel
theorem dL_law_307 : decode cL_law 307 = .ok (.iload_n 3, 1) := by decide +kernel
theorem dL_law_308 : decode cL_law 308 = .ok (.iconst 1, 1) := by decide +kernel
theorem dL_law_309 : decode cL_law 309 = .ok (.iadd, 1) := by decide +kernel
theorem dL_law_310 : decode cL_law 310 = .ok (.iaload, 1) := by decide +kernel
theorem dL_law_311 : decode cL_law 311 = .ok (.invokevirtual 27, 3) := by decide +kernel
theorem dL_law_314 : decode cL_law 314 = .ok (.aload_n 2, 1) := by decide +kernel
theorem dL_law_315 : decode cL_law 315 = .ok (.aload_n 0, 1) := by decide +kernel
theorem dL_law_316 : decode cL_law 316 = .ok (.iload_n 3, 1) := by decide +kernel
theorem dL_law_317 : decode cL_law 317 = .ok (.iconst 1, 1) := by decide +kernel
theorem dL_law_318 : decode cL_law 318 = .ok (.iadd, 1) := by decide +kernel
theorem dL_law_319 : decode cL_law 319 = .ok (.iaload, 1) := by decide +kernel
theorem dL_law_320 : decode cL_law 320 = .ok (.invokevirtual 31, 3) := by decide +kernel
theorem dL_law_323 : decode cL_law 323 = .ok (.if_icmp .eq 654, 3) := by decide +kernel
theorem dL_law_326 : decode cL_law 326 = .ok (.iconst 0, 1) := by decide +kernel
theorem dL_law_327 : decode cL_law 327 = .ok (.ireturn, 1) := by decide +kernel
theorem dL_law_328 : decode cL_law 328 = .ok (.aload_n 1, 1) := by decide +kernel
theorem dL_law_329 : decode cL_law 329 = .ok (.aload_n 0, 1) := by decide +kernel
theorem dL_law_330 : decode cL_law 330 = .ok (.iload_n 3, 1) := by decide +kernel
theorem dL_law_331 : decode cL_law 331 = .ok (.iconst 1, 1) := by decide +kernel
theorem dL_law_332 : decode cL_law 332 = .ok (.iadd, 1) := by decide +kernel
theorem dL_law_333 : decode cL_law 333 = .ok (.iaload, 1) := by decide +kernel
theorem dL_law_334 : decode cL_law 334 = .ok (.i2l, 1) := by decide +kernel
theorem dL_law_335 : decode cL_law 335 = .ok (.bipush 32, 2) := by decide +kernel
theorem dL_law_337 : decode cL_law 337 = .ok (.lshl, 1) := by decide +kernel
theorem dL_law_338 : decode cL_law 338 = .ok (.aload_n 0, 1) := by decide +kernel
theorem dL_law_339 : decode cL_law 339 = .ok (.iload_n 3, 1) := by decide +kernel
theorem dL_law_340 : decode cL_law 340 = .ok (.iconst 2, 1) := by decide +kernel
theorem dL_law_341 : decode cL_law 341 = .ok (.iadd, 1) := by decide +kernel
theorem dL_law_342 : decode cL_law 342 = .ok (.iaload, 1) := by decide +kernel
theorem dL_law_343 : decode cL_law 343 = .ok (.i2l, 1) := by decide +kernel
theorem dL_law_344 : decode cL_law 344 = .ok (.ldc2_w 32, 3) := by decide +kernel
theorem dL_law_347 : decode cL_law 347 = .ok (.land, 1) := by decide +kernel
theorem dL_law_348 : decode cL_law 348 = .ok (.lor, 1) := by decide +kernel
theorem dL_law_349 : decode cL_law 349 = .ok (.aload_n 0, 1) := by decide +kernel
theorem dL_law_350 : decode cL_law 350 = .ok (.iload_n 3, 1) := by decide +kernel
theorem dL_law_351 : decode cL_law 351 = .ok (.iconst 3, 1) := by decide +kernel
theorem dL_law_352 : decode cL_law 352 = .ok (.iadd, 1) := by decide +kernel
theorem dL_law_353 : decode cL_law 353 = .ok (.iaload, 1) := by decide +kernel
theorem dL_law_354 : decode cL_law 354 = .ok (.invokevirtual 34, 3) := by decide +kernel
theorem dL_law_357 : decode cL_law 357 = .ok (.aload_n 2, 1) := by decide +kernel
theorem dL_law_358 : decode cL_law 358 = .ok (.aload_n 0, 1) := by decide +kernel
theorem dL_law_359 : decode cL_law 359 = .ok (.iload_n 3, 1) := by decide +kernel
theorem dL_law_360 : decode cL_law 360 = .ok (.iconst 1, 1) := by decide +kernel
theorem dL_law_361 : decode cL_law 361 = .ok (.iadd, 1) := by decide +kernel
theorem dL_law_362 : decode cL_law 362 = .ok (.iaload, 1) := by decide +kernel
theorem dL_law_363 : decode cL_law 363 = .ok (.i2l, 1) := by decide +kernel
theorem dL_law_364 : decode cL_law 364 = .ok (.bipush 32, 2) := by decide +kernel
theorem dL_law_366 : decode cL_law 366 = .ok (.lshl, 1) := by decide +kernel
theorem dL_law_367 : decode cL_law 367 = .ok (.aload_n 0, 1) := by decide +kernel
theorem dL_law_368 : decode cL_law 368 = .ok (.iload_n 3, 1) := by decide +kernel
theorem dL_law_369 : decode cL_law 369 = .ok (.iconst 2, 1) := by decide +kernel
theorem dL_law_370 : decode cL_law 370 = .ok (.iadd, 1) := by decide +kernel
theorem dL_law_371 : decode cL_law 371 = .ok (.iaload, 1) := by decide +kernel
theorem dL_law_372 : decode cL_law 372 = .ok (.i2l, 1) := by decide +kernel
theorem dL_law_373 : decode cL_law 373 = .ok (.ldc2_w 32, 3) := by decide +kernel
theorem dL_law_376 : decode cL_law 376 = .ok (.land, 1) := by decide +kernel
theorem dL_law_377 : decode cL_law 377 = .ok (.lor, 1) := by decide +kernel
theorem dL_law_378 : decode cL_law 378 = .ok (.aload_n 0, 1) := by decide +kernel
theorem dL_law_379 : decode cL_law 379 = .ok (.iload_n 3, 1) := by decide +kernel
theorem dL_law_380 : decode cL_law 380 = .ok (.iconst 3, 1) := by decide +kernel
theorem dL_law_381 : decode cL_law 381 = .ok (.iadd, 1) := by decide +kernel
theorem dL_law_382 : decode cL_law 382 = .ok (.iaload, 1) := by decide +kernel
theorem dL_law_383 : decode cL_law 383 = .ok (.invokevirtual 38, 3) := by decide +kernel
theorem dL_law_386 : decode cL_law 386 = .ok (.if_icmp .eq 591, 3) := by decide +kernel
theorem dL_law_389 : decode cL_law 389 = .ok (.iconst 0, 1) := by decide +kernel
theorem dL_law_390 : decode cL_law 390 = .ok (.ireturn, 1) := by decide +kernel
theorem dL_law_391 : decode cL_law 391 = .ok (.aload_n 1, 1) := by decide +kernel
theorem dL_law_392 : decode cL_law 392 = .ok (.invokevirtual 39, 3) := by decide +kernel
theorem dL_law_395 : decode cL_law 395 = .ok (.aload_n 2, 1) := by decide +kernel
theorem dL_law_396 : decode cL_law 396 = .ok (.invokevirtual 43, 3) := by decide +kernel
theorem dL_law_399 : decode cL_law 399 = .ok (.if_icmp .eq 578, 3) := by decide +kernel
theorem dL_law_402 : decode cL_law 402 = .ok (.iconst 0, 1) := by decide +kernel
theorem dL_law_403 : decode cL_law 403 = .ok (.ireturn, 1) := by decide +kernel
theorem dL_law_404 : decode cL_law 404 = .ok (.aload_n 1, 1) := by decide +kernel
theorem dL_law_405 : decode cL_law 405 = .ok (.invokevirtual 44, 3) := by decide +kernel
theorem dL_law_408 : decode cL_law 408 = .ok (.aload_n 2, 1) := by decide +kernel
theorem dL_law_409 : decode cL_law 409 = .ok (.invokevirtual 47, 3) := by decide +kernel
theorem dL_law_412 : decode cL_law 412 = .ok (.if_icmp .eq 565, 3) := by decide +kernel
theorem dL_law_415 : decode cL_law 415 = .ok (.iconst 0, 1) := by decide +kernel
theorem dL_law_416 : decode cL_law 416 = .ok (.ireturn, 1) := by decide +kernel
theorem dL_law_417 : decode cL_law 417 = .ok (.aload_n 1, 1) := by decide +kernel
theorem dL_law_418 : decode cL_law 418 = .ok (.aload_n 0, 1) := by decide +kernel
theorem dL_law_419 : decode cL_law 419 = .ok (.iload_n 3, 1) := by decide +kernel
theorem dL_law_420 : decode cL_law 420 = .ok (.iconst 1, 1) := by decide +kernel
theorem dL_law_421 : decode cL_law 421 = .ok (.iadd, 1) := by decide +kernel
theorem dL_law_422 : decode cL_law 422 = .ok (.iaload, 1) := by decide +kernel
theorem dL_law_423 : decode cL_law 423 = .ok (.aload_n 0, 1) := by decide +kernel
theorem dL_law_424 : decode cL_law 424 = .ok (.iload_n 3, 1) := by decide +kernel
theorem dL_law_425 : decode cL_law 425 = .ok (.iconst 2, 1) := by decide +kernel
theorem dL_law_426 : decode cL_law 426 = .ok (.iadd, 1) := by decide +kernel
theorem dL_law_427 : decode cL_law 427 = .ok (.iaload, 1) := by decide +kernel
theorem dL_law_428 : decode cL_law 428 = .ok (.invokevirtual 48, 3) := by decide +kernel
theorem dL_law_431 : decode cL_law 431 = .ok (.aload_n 2, 1) := by decide +kernel
theorem dL_law_432 : decode cL_law 432 = .ok (.aload_n 0, 1) := by decide +kernel
theorem dL_law_433 : decode cL_law 433 = .ok (.iload_n 3, 1) := by decide +kernel
theorem dL_law_434 : decode cL_law 434 = .ok (.iconst 1, 1) := by decide +kernel
theorem dL_law_435 : decode cL_law 435 = .ok (.iadd, 1) := by decide +kernel
theorem dL_law_436 : decode cL_law 436 = .ok (.iaload, 1) := by decide +kernel
theorem dL_law_437 : decode cL_law 437 = .ok (.aload_n 0, 1) := by decide +kernel
theorem dL_law_438 : decode cL_law 438 = .ok (.iload_n 3, 1) := by decide +kernel
theorem dL_law_439 : decode cL_law 439 = .ok (.iconst 2, 1) := by decide +kernel
theorem dL_law_440 : decode cL_law 440 = .ok (.iadd, 1) := by decide +kernel
theorem dL_law_441 : decode cL_law 441 = .ok (.iaload, 1) := by decide +kernel
theorem dL_law_442 : decode cL_law 442 = .ok (.invokevirtual 52, 3) := by decide +kernel
theorem dL_law_445 : decode cL_law 445 = .ok (.if_icmp .eq 532, 3) := by decide +kernel
theorem dL_law_448 : decode cL_law 448 = .ok (.iconst 0, 1) := by decide +kernel
theorem dL_law_449 : decode cL_law 449 = .ok (.ireturn, 1) := by decide +kernel
theorem dL_law_450 : decode cL_law 450 = .ok (.aload_n 1, 1) := by decide +kernel
theorem dL_law_451 : decode cL_law 451 = .ok (.aload_n 0, 1) := by decide +kernel
theorem dL_law_452 : decode cL_law 452 = .ok (.iload_n 3, 1) := by decide +kernel
theorem dL_law_453 : decode cL_law 453 = .ok (.iconst 1, 1) := by decide +kernel
theorem dL_law_454 : decode cL_law 454 = .ok (.iadd, 1) := by decide +kernel
theorem dL_law_455 : decode cL_law 455 = .ok (.iaload, 1) := by decide +kernel
theorem dL_law_456 : decode cL_law 456 = .ok (.invokevirtual 53, 3) := by decide +kernel
theorem dL_law_459 : decode cL_law 459 = .ok (.aload_n 2, 1) := by decide +kernel
theorem dL_law_460 : decode cL_law 460 = .ok (.aload_n 0, 1) := by decide +kernel
theorem dL_law_461 : decode cL_law 461 = .ok (.iload_n 3, 1) := by decide +kernel
theorem dL_law_462 : decode cL_law 462 = .ok (.iconst 1, 1) := by decide +kernel
theorem dL_law_463 : decode cL_law 463 = .ok (.iadd, 1) := by decide +kernel
theorem dL_law_464 : decode cL_law 464 = .ok (.iaload, 1) := by decide +kernel
theorem dL_law_465 : decode cL_law 465 = .ok (.invokevirtual 56, 3) := by decide +kernel
theorem dL_law_468 : decode cL_law 468 = .ok (.if_icmp .eq 509, 3) := by decide +kernel
theorem dL_law_471 : decode cL_law 471 = .ok (.iconst 0, 1) := by decide +kernel
theorem dL_law_472 : decode cL_law 472 = .ok (.ireturn, 1) := by decide +kernel
theorem dL_law_473 : decode cL_law 473 = .ok (.aload_n 1, 1) := by decide +kernel
theorem dL_law_474 : decode cL_law 474 = .ok (.aload_n 0, 1) := by decide +kernel
theorem dL_law_475 : decode cL_law 475 = .ok (.iload_n 3, 1) := by decide +kernel
theorem dL_law_476 : decode cL_law 476 = .ok (.iconst 1, 1) := by decide +kernel
theorem dL_law_477 : decode cL_law 477 = .ok (.iadd, 1) := by decide +kernel
theorem dL_law_478 : decode cL_law 478 = .ok (.iaload, 1) := by decide +kernel
theorem dL_law_479 : decode cL_law 479 = .ok (.invokevirtual 57, 3) := by decide +kernel
theorem dL_law_482 : decode cL_law 482 = .ok (.aload_n 2, 1) := by decide +kernel
theorem dL_law_483 : decode cL_law 483 = .ok (.aload_n 0, 1) := by decide +kernel
theorem dL_law_484 : decode cL_law 484 = .ok (.iload_n 3, 1) := by decide +kernel
theorem dL_law_485 : decode cL_law 485 = .ok (.iconst 1, 1) := by decide +kernel
theorem dL_law_486 : decode cL_law 486 = .ok (.iadd, 1) := by decide +kernel
theorem dL_law_487 : decode cL_law 487 = .ok (.iaload, 1) := by decide +kernel
theorem dL_law_488 : decode cL_law 488 = .ok (.invokevirtual 60, 3) := by decide +kernel
theorem dL_law_491 : decode cL_law 491 = .ok (.if_icmp .eq 486, 3) := by decide +kernel
theorem dL_law_494 : decode cL_law 494 = .ok (.iconst 0, 1) := by decide +kernel
theorem dL_law_495 : decode cL_law 495 = .ok (.ireturn, 1) := by decide +kernel
theorem dL_law_496 : decode cL_law 496 = .ok (.aload_n 1, 1) := by decide +kernel
theorem dL_law_497 : decode cL_law 497 = .ok (.aload_n 0, 1) := by decide +kernel
theorem dL_law_498 : decode cL_law 498 = .ok (.iload_n 3, 1) := by decide +kernel
theorem dL_law_499 : decode cL_law 499 = .ok (.iconst 1, 1) := by decide +kernel
theorem dL_law_500 : decode cL_law 500 = .ok (.iadd, 1) := by decide +kernel
theorem dL_law_501 : decode cL_law 501 = .ok (.iaload, 1) := by decide +kernel
theorem dL_law_502 : decode cL_law 502 = .ok (.aload_n 0, 1) := by decide +kernel
theorem dL_law_503 : decode cL_law 503 = .ok (.iload_n 3, 1) := by decide +kernel
theorem dL_law_504 : decode cL_law 504 = .ok (.iconst 2, 1) := by decide +kernel
theorem dL_law_505 : decode cL_law 505 = .ok (.iadd, 1) := by decide +kernel
theorem dL_law_506 : decode cL_law 506 = .ok (.iaload, 1) := by decide +kernel
theorem dL_law_507 : decode cL_law 507 = .ok (.invokevirtual 61, 3) := by decide +kernel
theorem dL_law_510 : decode cL_law 510 = .ok (.aload_n 2, 1) := by decide +kernel
theorem dL_law_511 : decode cL_law 511 = .ok (.aload_n 0, 1) := by decide +kernel
theorem dL_law_512 : decode cL_law 512 = .ok (.iload_n 3, 1) := by decide +kernel
theorem dL_law_513 : decode cL_law 513 = .ok (.iconst 1, 1) := by decide +kernel
theorem dL_law_514 : decode cL_law 514 = .ok (.iadd, 1) := by decide +kernel
theorem dL_law_515 : decode cL_law 515 = .ok (.iaload, 1) := by decide +kernel
theorem dL_law_516 : decode cL_law 516 = .ok (.aload_n 0, 1) := by decide +kernel
theorem dL_law_517 : decode cL_law 517 = .ok (.iload_n 3, 1) := by decide +kernel
theorem dL_law_518 : decode cL_law 518 = .ok (.iconst 2, 1) := by decide +kernel
theorem dL_law_519 : decode cL_law 519 = .ok (.iadd, 1) := by decide +kernel
theorem dL_law_520 : decode cL_law 520 = .ok (.iaload, 1) := by decide +kernel
theorem dL_law_521 : decode cL_law 521 = .ok (.invokevirtual 64, 3) := by decide +kernel
theorem dL_law_524 : decode cL_law 524 = .ok (.if_icmp .eq 453, 3) := by decide +kernel
theorem dL_law_527 : decode cL_law 527 = .ok (.iconst 0, 1) := by decide +kernel
theorem dL_law_528 : decode cL_law 528 = .ok (.ireturn, 1) := by decide +kernel
theorem dL_law_529 : decode cL_law 529 = .ok (.aload_n 1, 1) := by decide +kernel
theorem dL_law_530 : decode cL_law 530 = .ok (.aload_n 0, 1) := by decide +kernel
theorem dL_law_531 : decode cL_law 531 = .ok (.iload_n 3, 1) := by decide +kernel
theorem dL_law_532 : decode cL_law 532 = .ok (.iconst 1, 1) := by decide +kernel
theorem dL_law_533 : decode cL_law 533 = .ok (.iadd, 1) := by decide +kernel
theorem dL_law_534 : decode cL_law 534 = .ok (.iaload, 1) := by decide +kernel
theorem dL_law_535 : decode cL_law 535 = .ok (.aload_n 0, 1) := by decide +kernel
theorem dL_law_536 : decode cL_law 536 = .ok (.iload_n 3, 1) := by decide +kernel
theorem dL_law_537 : decode cL_law 537 = .ok (.iconst 2, 1) := by decide +kernel
theorem dL_law_538 : decode cL_law 538 = .ok (.iadd, 1) := by decide +kernel
theorem dL_law_539 : decode cL_law 539 = .ok (.iaload, 1) := by decide +kernel
theorem dL_law_540 : decode cL_law 540 = .ok (.invokevirtual 65, 3) := by decide +kernel
theorem dL_law_543 : decode cL_law 543 = .ok (.aload_n 2, 1) := by decide +kernel
theorem dL_law_544 : decode cL_law 544 = .ok (.aload_n 0, 1) := by decide +kernel
theorem dL_law_545 : decode cL_law 545 = .ok (.iload_n 3, 1) := by decide +kernel
theorem dL_law_546 : decode cL_law 546 = .ok (.iconst 1, 1) := by decide +kernel
theorem dL_law_547 : decode cL_law 547 = .ok (.iadd, 1) := by decide +kernel
theorem dL_law_548 : decode cL_law 548 = .ok (.iaload, 1) := by decide +kernel
theorem dL_law_549 : decode cL_law 549 = .ok (.aload_n 0, 1) := by decide +kernel
theorem dL_law_550 : decode cL_law 550 = .ok (.iload_n 3, 1) := by decide +kernel
theorem dL_law_551 : decode cL_law 551 = .ok (.iconst 2, 1) := by decide +kernel
theorem dL_law_552 : decode cL_law 552 = .ok (.iadd, 1) := by decide +kernel
theorem dL_law_553 : decode cL_law 553 = .ok (.iaload, 1) := by decide +kernel
theorem dL_law_554 : decode cL_law 554 = .ok (.invokevirtual 68, 3) := by decide +kernel
theorem dL_law_557 : decode cL_law 557 = .ok (.if_icmp .eq 420, 3) := by decide +kernel
theorem dL_law_560 : decode cL_law 560 = .ok (.iconst 0, 1) := by decide +kernel
theorem dL_law_561 : decode cL_law 561 = .ok (.ireturn, 1) := by decide +kernel
theorem dL_law_562 : decode cL_law 562 = .ok (.aload_n 1, 1) := by decide +kernel
theorem dL_law_563 : decode cL_law 563 = .ok (.aload_n 0, 1) := by decide +kernel
theorem dL_law_564 : decode cL_law 564 = .ok (.iload_n 3, 1) := by decide +kernel
theorem dL_law_565 : decode cL_law 565 = .ok (.iconst 1, 1) := by decide +kernel
theorem dL_law_566 : decode cL_law 566 = .ok (.iadd, 1) := by decide +kernel
theorem dL_law_567 : decode cL_law 567 = .ok (.iaload, 1) := by decide +kernel
theorem dL_law_568 : decode cL_law 568 = .ok (.aload_n 0, 1) := by decide +kernel
theorem dL_law_569 : decode cL_law 569 = .ok (.iload_n 3, 1) := by decide +kernel
theorem dL_law_570 : decode cL_law 570 = .ok (.iconst 2, 1) := by decide +kernel
theorem dL_law_571 : decode cL_law 571 = .ok (.iadd, 1) := by decide +kernel
theorem dL_law_572 : decode cL_law 572 = .ok (.iaload, 1) := by decide +kernel
theorem dL_law_573 : decode cL_law 573 = .ok (.invokevirtual 69, 3) := by decide +kernel
theorem dL_law_576 : decode cL_law 576 = .ok (.aload_n 2, 1) := by decide +kernel
theorem dL_law_577 : decode cL_law 577 = .ok (.aload_n 0, 1) := by decide +kernel
theorem dL_law_578 : decode cL_law 578 = .ok (.iload_n 3, 1) := by decide +kernel
theorem dL_law_579 : decode cL_law 579 = .ok (.iconst 1, 1) := by decide +kernel
theorem dL_law_580 : decode cL_law 580 = .ok (.iadd, 1) := by decide +kernel
theorem dL_law_581 : decode cL_law 581 = .ok (.iaload, 1) := by decide +kernel
theorem dL_law_582 : decode cL_law 582 = .ok (.aload_n 0, 1) := by decide +kernel
theorem dL_law_583 : decode cL_law 583 = .ok (.iload_n 3, 1) := by decide +kernel
theorem dL_law_584 : decode cL_law 584 = .ok (.iconst 2, 1) := by decide +kernel
theorem dL_law_585 : decode cL_law 585 = .ok (.iadd, 1) := by decide +kernel
theorem dL_law_586 : decode cL_law 586 = .ok (.iaload, 1) := by decide +kernel
theorem dL_law_587 : decode cL_law 587 = .ok (.invokevirtual 72, 3) := by decide +kernel
theorem dL_law_590 : decode cL_law 590 = .ok (.if_icmp .eq 387, 3) := by decide +kernel
theorem dL_law_593 : decode cL_law 593 = .ok (.iconst 0, 1) := by decide +kernel
theorem dL_law_594 : decode cL_law 594 = .ok (.ireturn, 1) := by decide +kernel
theorem dL_law_595 : decode cL_law 595 = .ok (.aload_n 1, 1) := by decide +kernel
theorem dL_law_596 : decode cL_law 596 = .ok (.invokevirtual 73, 3) := by decide +kernel
theorem dL_law_599 : decode cL_law 599 = .ok (.aload_n 2, 1) := by decide +kernel
theorem dL_law_600 : decode cL_law 600 = .ok (.invokevirtual 76, 3) := by decide +kernel
theorem dL_law_603 : decode cL_law 603 = .ok (.if_icmp .eq 374, 3) := by decide +kernel
theorem dL_law_606 : decode cL_law 606 = .ok (.iconst 0, 1) := by decide +kernel
theorem dL_law_607 : decode cL_law 607 = .ok (.ireturn, 1) := by decide +kernel
theorem dL_law_608 : decode cL_law 608 = .ok (.aload_n 1, 1) := by decide +kernel
theorem dL_law_609 : decode cL_law 609 = .ok (.aload_n 0, 1) := by decide +kernel
theorem dL_law_610 : decode cL_law 610 = .ok (.iload_n 3, 1) := by decide +kernel
theorem dL_law_611 : decode cL_law 611 = .ok (.iconst 1, 1) := by decide +kernel
theorem dL_law_612 : decode cL_law 612 = .ok (.iadd, 1) := by decide +kernel
theorem dL_law_613 : decode cL_law 613 = .ok (.iaload, 1) := by decide +kernel
theorem dL_law_614 : decode cL_law 614 = .ok (.aload_n 0, 1) := by decide +kernel
theorem dL_law_615 : decode cL_law 615 = .ok (.iload_n 3, 1) := by decide +kernel
theorem dL_law_616 : decode cL_law 616 = .ok (.iconst 2, 1) := by decide +kernel
theorem dL_law_617 : decode cL_law 617 = .ok (.iadd, 1) := by decide +kernel
theorem dL_law_618 : decode cL_law 618 = .ok (.iaload, 1) := by decide +kernel
theorem dL_law_619 : decode cL_law 619 = .ok (.invokevirtual 77, 3) := by decide +kernel
theorem dL_law_622 : decode cL_law 622 = .ok (.aload_n 2, 1) := by decide +kernel
theorem dL_law_623 : decode cL_law 623 = .ok (.aload_n 0, 1) := by decide +kernel
theorem dL_law_624 : decode cL_law 624 = .ok (.iload_n 3, 1) := by decide +kernel
theorem dL_law_625 : decode cL_law 625 = .ok (.iconst 1, 1) := by decide +kernel
theorem dL_law_626 : decode cL_law 626 = .ok (.iadd, 1) := by decide +kernel
theorem dL_law_627 : decode cL_law 627 = .ok (.iaload, 1) := by decide +kernel
theorem dL_law_628 : decode cL_law 628 = .ok (.aload_n 0, 1) := by decide +kernel
theorem dL_law_629 : decode cL_law 629 = .ok (.iload_n 3, 1) := by decide +kernel
theorem dL_law_630 : decode cL_law 630 = .ok (.iconst 2, 1) := by decide +kernel
theorem dL_law_631 : decode cL_law 631 = .ok (.iadd, 1) := by decide +kernel
theorem dL_law_632 : decode cL_law 632 = .ok (.iaload, 1) := by decide +kernel
theorem dL_law_633 : decode cL_law 633 = .ok (.invokevirtual 80, 3) := by decide +kernel
theorem dL_law_636 : decode cL_law 636 = .ok (.if_icmp .eq 341, 3) := by decide +kernel
theorem dL_law_639 : decode cL_law 639 = .ok (.iconst 0, 1) := by decide +kernel
theorem dL_law_640 : decode cL_law 640 = .ok (.ireturn, 1) := by decide +kernel
theorem dL_law_641 : decode cL_law 641 = .ok (.aload_n 1, 1) := by decide +kernel
theorem dL_law_642 : decode cL_law 642 = .ok (.aload_n 0, 1) := by decide +kernel
theorem dL_law_643 : decode cL_law 643 = .ok (.iload_n 3, 1) := by decide +kernel
theorem dL_law_644 : decode cL_law 644 = .ok (.iconst 1, 1) := by decide +kernel
theorem dL_law_645 : decode cL_law 645 = .ok (.iadd, 1) := by decide +kernel
theorem dL_law_646 : decode cL_law 646 = .ok (.iaload, 1) := by decide +kernel
theorem dL_law_647 : decode cL_law 647 = .ok (.aload_n 0, 1) := by decide +kernel
theorem dL_law_648 : decode cL_law 648 = .ok (.iload_n 3, 1) := by decide +kernel
theorem dL_law_649 : decode cL_law 649 = .ok (.iconst 2, 1) := by decide +kernel
theorem dL_law_650 : decode cL_law 650 = .ok (.iadd, 1) := by decide +kernel
theorem dL_law_651 : decode cL_law 651 = .ok (.iaload, 1) := by decide +kernel
theorem dL_law_652 : decode cL_law 652 = .ok (.invokevirtual 81, 3) := by decide +kernel
theorem dL_law_655 : decode cL_law 655 = .ok (.aload_n 2, 1) := by decide +kernel
theorem dL_law_656 : decode cL_law 656 = .ok (.aload_n 0, 1) := by decide +kernel
theorem dL_law_657 : decode cL_law 657 = .ok (.iload_n 3, 1) := by decide +kernel
theorem dL_law_658 : decode cL_law 658 = .ok (.iconst 1, 1) := by decide +kernel
theorem dL_law_659 : decode cL_law 659 = .ok (.iadd, 1) := by decide +kernel
theorem dL_law_660 : decode cL_law 660 = .ok (.iaload, 1) := by decide +kernel
theorem dL_law_661 : decode cL_law 661 = .ok (.aload_n 0, 1) := by decide +kernel
theorem dL_law_662 : decode cL_law 662 = .ok (.iload_n 3, 1) := by decide +kernel
theorem dL_law_663 : decode cL_law 663 = .ok (.iconst 2, 1) := by decide +kernel
theorem dL_law_664 : decode cL_law 664 = .ok (.iadd, 1) := by decide +kernel
theorem dL_law_665 : decode cL_law 665 = .ok (.iaload, 1) := by decide +kernel
theorem dL_law_666 : decode cL_law 666 = .ok (.invokevirtual 84, 3) := by decide +kernel
theorem dL_law_669 : decode cL_law 669 = .ok (.if_icmp .eq 308, 3) := by decide +kernel
theorem dL_law_672 : decode cL_law 672 = .ok (.iconst 0, 1) := by decide +kernel
theorem dL_law_673 : decode cL_law 673 = .ok (.ireturn, 1) := by decide +kernel
theorem dL_law_674 : decode cL_law 674 = .ok (.aload_n 1, 1) := by decide +kernel
theorem dL_law_675 : decode cL_law 675 = .ok (.aload_n 0, 1) := by decide +kernel
theorem dL_law_676 : decode cL_law 676 = .ok (.iload_n 3, 1) := by decide +kernel
theorem dL_law_677 : decode cL_law 677 = .ok (.iconst 1, 1) := by decide +kernel
theorem dL_law_678 : decode cL_law 678 = .ok (.iadd, 1) := by decide +kernel
theorem dL_law_679 : decode cL_law 679 = .ok (.iaload, 1) := by decide +kernel
theorem dL_law_680 : decode cL_law 680 = .ok (.aload_n 0, 1) := by decide +kernel
theorem dL_law_681 : decode cL_law 681 = .ok (.iload_n 3, 1) := by decide +kernel
theorem dL_law_682 : decode cL_law 682 = .ok (.iconst 2, 1) := by decide +kernel
theorem dL_law_683 : decode cL_law 683 = .ok (.iadd, 1) := by decide +kernel
theorem dL_law_684 : decode cL_law 684 = .ok (.iaload, 1) := by decide +kernel
theorem dL_law_685 : decode cL_law 685 = .ok (.invokevirtual 85, 3) := by decide +kernel
theorem dL_law_688 : decode cL_law 688 = .ok (.aload_n 2, 1) := by decide +kernel
theorem dL_law_689 : decode cL_law 689 = .ok (.aload_n 0, 1) := by decide +kernel
theorem dL_law_690 : decode cL_law 690 = .ok (.iload_n 3, 1) := by decide +kernel
theorem dL_law_691 : decode cL_law 691 = .ok (.iconst 1, 1) := by decide +kernel
theorem dL_law_692 : decode cL_law 692 = .ok (.iadd, 1) := by decide +kernel
theorem dL_law_693 : decode cL_law 693 = .ok (.iaload, 1) := by decide +kernel
theorem dL_law_694 : decode cL_law 694 = .ok (.aload_n 0, 1) := by decide +kernel
theorem dL_law_695 : decode cL_law 695 = .ok (.iload_n 3, 1) := by decide +kernel
theorem dL_law_696 : decode cL_law 696 = .ok (.iconst 2, 1) := by decide +kernel
theorem dL_law_697 : decode cL_law 697 = .ok (.iadd, 1) := by decide +kernel
theorem dL_law_698 : decode cL_law 698 = .ok (.iaload, 1) := by decide +kernel
theorem dL_law_699 : decode cL_law 699 = .ok (.invokevirtual 88, 3) := by decide +kernel
theorem dL_law_702 : decode cL_law 702 = .ok (.if_icmp .eq 275, 3) := by decide +kernel
theorem dL_law_705 : decode cL_law 705 = .ok (.iconst 0, 1) := by decide +kernel
theorem dL_law_706 : decode cL_law 706 = .ok (.ireturn, 1) := by decide +kernel
theorem dL_law_707 : decode cL_law 707 = .ok (.aload_n 1, 1) := by decide +kernel
theorem dL_law_708 : decode cL_law 708 = .ok (.aload_n 0, 1) := by decide +kernel
theorem dL_law_709 : decode cL_law 709 = .ok (.iload_n 3, 1) := by decide +kernel
theorem dL_law_710 : decode cL_law 710 = .ok (.iconst 1, 1) := by decide +kernel
theorem dL_law_711 : decode cL_law 711 = .ok (.iadd, 1) := by decide +kernel
theorem dL_law_712 : decode cL_law 712 = .ok (.iaload, 1) := by decide +kernel
theorem dL_law_713 : decode cL_law 713 = .ok (.aload_n 0, 1) := by decide +kernel
theorem dL_law_714 : decode cL_law 714 = .ok (.iload_n 3, 1) := by decide +kernel
theorem dL_law_715 : decode cL_law 715 = .ok (.iconst 2, 1) := by decide +kernel
theorem dL_law_716 : decode cL_law 716 = .ok (.iadd, 1) := by decide +kernel
theorem dL_law_717 : decode cL_law 717 = .ok (.iaload, 1) := by decide +kernel
theorem dL_law_718 : decode cL_law 718 = .ok (.aload_n 0, 1) := by decide +kernel
theorem dL_law_719 : decode cL_law 719 = .ok (.iload_n 3, 1) := by decide +kernel
theorem dL_law_720 : decode cL_law 720 = .ok (.iconst 3, 1) := by decide +kernel
theorem dL_law_721 : decode cL_law 721 = .ok (.iadd, 1) := by decide +kernel
theorem dL_law_722 : decode cL_law 722 = .ok (.iaload, 1) := by decide +kernel
theorem dL_law_723 : decode cL_law 723 = .ok (.invokevirtual 89, 3) := by decide +kernel
theorem dL_law_726 : decode cL_law 726 = .ok (.aload_n 2, 1) := by decide +kernel
theorem dL_law_727 : decode cL_law 727 = .ok (.aload_n 0, 1) := by decide +kernel
theorem dL_law_728 : decode cL_law 728 = .ok (.iload_n 3, 1) := by decide +kernel
theorem dL_law_729 : decode cL_law 729 = .ok (.iconst 1, 1) := by decide +kernel
theorem dL_law_730 : decode cL_law 730 = .ok (.iadd, 1) := by decide +kernel
theorem dL_law_731 : decode cL_law 731 = .ok (.iaload, 1) := by decide +kernel
theorem dL_law_732 : decode cL_law 732 = .ok (.aload_n 0, 1) := by decide +kernel
theorem dL_law_733 : decode cL_law 733 = .ok (.iload_n 3, 1) := by decide +kernel
theorem dL_law_734 : decode cL_law 734 = .ok (.iconst 2, 1) := by decide +kernel
theorem dL_law_735 : decode cL_law 735 = .ok (.iadd, 1) := by decide +kernel
theorem dL_law_736 : decode cL_law 736 = .ok (.iaload, 1) := by decide +kernel
theorem dL_law_737 : decode cL_law 737 = .ok (.aload_n 0, 1) := by decide +kernel
theorem dL_law_738 : decode cL_law 738 = .ok (.iload_n 3, 1) := by decide +kernel
theorem dL_law_739 : decode cL_law 739 = .ok (.iconst 3, 1) := by decide +kernel
theorem dL_law_740 : decode cL_law 740 = .ok (.iadd, 1) := by decide +kernel
theorem dL_law_741 : decode cL_law 741 = .ok (.iaload, 1) := by decide +kernel
theorem dL_law_742 : decode cL_law 742 = .ok (.invokevirtual 92, 3) := by decide +kernel
theorem dL_law_745 : decode cL_law 745 = .ok (.if_icmp .eq 232, 3) := by decide +kernel
theorem dL_law_748 : decode cL_law 748 = .ok (.iconst 0, 1) := by decide +kernel
theorem dL_law_749 : decode cL_law 749 = .ok (.ireturn, 1) := by decide +kernel
theorem dL_law_750 : decode cL_law 750 = .ok (.aload_n 1, 1) := by decide +kernel
theorem dL_law_751 : decode cL_law 751 = .ok (.aload_n 0, 1) := by decide +kernel
theorem dL_law_752 : decode cL_law 752 = .ok (.iload_n 3, 1) := by decide +kernel
theorem dL_law_753 : decode cL_law 753 = .ok (.iconst 1, 1) := by decide +kernel
theorem dL_law_754 : decode cL_law 754 = .ok (.iadd, 1) := by decide +kernel
theorem dL_law_755 : decode cL_law 755 = .ok (.iaload, 1) := by decide +kernel
theorem dL_law_756 : decode cL_law 756 = .ok (.aload_n 0, 1) := by decide +kernel
theorem dL_law_757 : decode cL_law 757 = .ok (.iload_n 3, 1) := by decide +kernel
theorem dL_law_758 : decode cL_law 758 = .ok (.iconst 2, 1) := by decide +kernel
theorem dL_law_759 : decode cL_law 759 = .ok (.iadd, 1) := by decide +kernel
theorem dL_law_760 : decode cL_law 760 = .ok (.iaload, 1) := by decide +kernel
theorem dL_law_761 : decode cL_law 761 = .ok (.invokevirtual 93, 3) := by decide +kernel
theorem dL_law_764 : decode cL_law 764 = .ok (.aload_n 2, 1) := by decide +kernel
theorem dL_law_765 : decode cL_law 765 = .ok (.aload_n 0, 1) := by decide +kernel
theorem dL_law_766 : decode cL_law 766 = .ok (.iload_n 3, 1) := by decide +kernel
theorem dL_law_767 : decode cL_law 767 = .ok (.iconst 1, 1) := by decide +kernel
theorem dL_law_768 : decode cL_law 768 = .ok (.iadd, 1) := by decide +kernel
theorem dL_law_769 : decode cL_law 769 = .ok (.iaload, 1) := by decide +kernel
theorem dL_law_770 : decode cL_law 770 = .ok (.aload_n 0, 1) := by decide +kernel
theorem dL_law_771 : decode cL_law 771 = .ok (.iload_n 3, 1) := by decide +kernel
theorem dL_law_772 : decode cL_law 772 = .ok (.iconst 2, 1) := by decide +kernel
theorem dL_law_773 : decode cL_law 773 = .ok (.iadd, 1) := by decide +kernel
theorem dL_law_774 : decode cL_law 774 = .ok (.iaload, 1) := by decide +kernel
theorem dL_law_775 : decode cL_law 775 = .ok (.invokevirtual 96, 3) := by decide +kernel
theorem dL_law_778 : decode cL_law 778 = .ok (.if_icmp .eq 199, 3) := by decide +kernel
theorem dL_law_781 : decode cL_law 781 = .ok (.iconst 0, 1) := by decide +kernel
theorem dL_law_782 : decode cL_law 782 = .ok (.ireturn, 1) := by decide +kernel
theorem dL_law_783 : decode cL_law 783 = .ok (.aload_n 1, 1) := by decide +kernel
theorem dL_law_784 : decode cL_law 784 = .ok (.aload_n 0, 1) := by decide +kernel
theorem dL_law_785 : decode cL_law 785 = .ok (.iload_n 3, 1) := by decide +kernel
theorem dL_law_786 : decode cL_law 786 = .ok (.iconst 1, 1) := by decide +kernel
theorem dL_law_787 : decode cL_law 787 = .ok (.iadd, 1) := by decide +kernel
theorem dL_law_788 : decode cL_law 788 = .ok (.iaload, 1) := by decide +kernel
theorem dL_law_789 : decode cL_law 789 = .ok (.invokevirtual 97, 3) := by decide +kernel
theorem dL_law_792 : decode cL_law 792 = .ok (.aload_n 2, 1) := by decide +kernel
theorem dL_law_793 : decode cL_law 793 = .ok (.aload_n 0, 1) := by decide +kernel
theorem dL_law_794 : decode cL_law 794 = .ok (.iload_n 3, 1) := by decide +kernel
theorem dL_law_795 : decode cL_law 795 = .ok (.iconst 1, 1) := by decide +kernel
theorem dL_law_796 : decode cL_law 796 = .ok (.iadd, 1) := by decide +kernel
theorem dL_law_797 : decode cL_law 797 = .ok (.iaload, 1) := by decide +kernel
theorem dL_law_798 : decode cL_law 798 = .ok (.invokevirtual 100, 3) := by decide +kernel
theorem dL_law_801 : decode cL_law 801 = .ok (.if_icmp .eq 176, 3) := by decide +kernel
theorem dL_law_804 : decode cL_law 804 = .ok (.iconst 0, 1) := by decide +kernel
theorem dL_law_805 : decode cL_law 805 = .ok (.ireturn, 1) := by decide +kernel
theorem dL_law_806 : decode cL_law 806 = .ok (.aload_n 1, 1) := by decide +kernel
theorem dL_law_807 : decode cL_law 807 = .ok (.aload_n 0, 1) := by decide +kernel
theorem dL_law_808 : decode cL_law 808 = .ok (.iload_n 3, 1) := by decide +kernel
theorem dL_law_809 : decode cL_law 809 = .ok (.iconst 1, 1) := by decide +kernel
theorem dL_law_810 : decode cL_law 810 = .ok (.iadd, 1) := by decide +kernel
theorem dL_law_811 : decode cL_law 811 = .ok (.iaload, 1) := by decide +kernel
theorem dL_law_812 : decode cL_law 812 = .ok (.invokevirtual 101, 3) := by decide +kernel
theorem dL_law_815 : decode cL_law 815 = .ok (.aload_n 2, 1) := by decide +kernel
theorem dL_law_816 : decode cL_law 816 = .ok (.aload_n 0, 1) := by decide +kernel
theorem dL_law_817 : decode cL_law 817 = .ok (.iload_n 3, 1) := by decide +kernel
theorem dL_law_818 : decode cL_law 818 = .ok (.iconst 1, 1) := by decide +kernel
theorem dL_law_819 : decode cL_law 819 = .ok (.iadd, 1) := by decide +kernel
theorem dL_law_820 : decode cL_law 820 = .ok (.iaload, 1) := by decide +kernel
theorem dL_law_821 : decode cL_law 821 = .ok (.invokevirtual 104, 3) := by decide +kernel
theorem dL_law_824 : decode cL_law 824 = .ok (.if_icmp .eq 153, 3) := by decide +kernel
theorem dL_law_827 : decode cL_law 827 = .ok (.iconst 0, 1) := by decide +kernel
theorem dL_law_828 : decode cL_law 828 = .ok (.ireturn, 1) := by decide +kernel
theorem dL_law_829 : decode cL_law 829 = .ok (.aload_n 1, 1) := by decide +kernel
theorem dL_law_830 : decode cL_law 830 = .ok (.aload_n 0, 1) := by decide +kernel
theorem dL_law_831 : decode cL_law 831 = .ok (.iload_n 3, 1) := by decide +kernel
theorem dL_law_832 : decode cL_law 832 = .ok (.iconst 1, 1) := by decide +kernel
theorem dL_law_833 : decode cL_law 833 = .ok (.iadd, 1) := by decide +kernel
theorem dL_law_834 : decode cL_law 834 = .ok (.iaload, 1) := by decide +kernel
theorem dL_law_835 : decode cL_law 835 = .ok (.invokevirtual 105, 3) := by decide +kernel
theorem dL_law_838 : decode cL_law 838 = .ok (.aload_n 2, 1) := by decide +kernel
theorem dL_law_839 : decode cL_law 839 = .ok (.aload_n 0, 1) := by decide +kernel
theorem dL_law_840 : decode cL_law 840 = .ok (.iload_n 3, 1) := by decide +kernel
theorem dL_law_841 : decode cL_law 841 = .ok (.iconst 1, 1) := by decide +kernel
theorem dL_law_842 : decode cL_law 842 = .ok (.iadd, 1) := by decide +kernel
theorem dL_law_843 : decode cL_law 843 = .ok (.iaload, 1) := by decide +kernel
theorem dL_law_844 : decode cL_law 844 = .ok (.invokevirtual 108, 3) := by decide +kernel
theorem dL_law_847 : decode cL_law 847 = .ok (.if_icmp .eq 130, 3) := by decide +kernel
theorem dL_law_850 : decode cL_law 850 = .ok (.iconst 0, 1) := by decide +kernel
theorem dL_law_851 : decode cL_law 851 = .ok (.ireturn, 1) := by decide +kernel
theorem dL_law_852 : decode cL_law 852 = .ok (.aload_n 1, 1) := by decide +kernel
theorem dL_law_853 : decode cL_law 853 = .ok (.aload_n 0, 1) := by decide +kernel
theorem dL_law_854 : decode cL_law 854 = .ok (.iload_n 3, 1) := by decide +kernel
theorem dL_law_855 : decode cL_law 855 = .ok (.iconst 1, 1) := by decide +kernel
theorem dL_law_856 : decode cL_law 856 = .ok (.iadd, 1) := by decide +kernel
theorem dL_law_857 : decode cL_law 857 = .ok (.iaload, 1) := by decide +kernel
theorem dL_law_858 : decode cL_law 858 = .ok (.aload_n 0, 1) := by decide +kernel
theorem dL_law_859 : decode cL_law 859 = .ok (.iload_n 3, 1) := by decide +kernel
theorem dL_law_860 : decode cL_law 860 = .ok (.iconst 2, 1) := by decide +kernel
theorem dL_law_861 : decode cL_law 861 = .ok (.iadd, 1) := by decide +kernel
theorem dL_law_862 : decode cL_law 862 = .ok (.iaload, 1) := by decide +kernel
theorem dL_law_863 : decode cL_law 863 = .ok (.invokevirtual 109, 3) := by decide +kernel
theorem dL_law_866 : decode cL_law 866 = .ok (.aload_n 2, 1) := by decide +kernel
theorem dL_law_867 : decode cL_law 867 = .ok (.aload_n 0, 1) := by decide +kernel
theorem dL_law_868 : decode cL_law 868 = .ok (.iload_n 3, 1) := by decide +kernel
theorem dL_law_869 : decode cL_law 869 = .ok (.iconst 1, 1) := by decide +kernel
theorem dL_law_870 : decode cL_law 870 = .ok (.iadd, 1) := by decide +kernel
theorem dL_law_871 : decode cL_law 871 = .ok (.iaload, 1) := by decide +kernel
theorem dL_law_872 : decode cL_law 872 = .ok (.aload_n 0, 1) := by decide +kernel
theorem dL_law_873 : decode cL_law 873 = .ok (.iload_n 3, 1) := by decide +kernel
theorem dL_law_874 : decode cL_law 874 = .ok (.iconst 2, 1) := by decide +kernel
theorem dL_law_875 : decode cL_law 875 = .ok (.iadd, 1) := by decide +kernel
theorem dL_law_876 : decode cL_law 876 = .ok (.iaload, 1) := by decide +kernel
theorem dL_law_877 : decode cL_law 877 = .ok (.invokevirtual 112, 3) := by decide +kernel
theorem dL_law_880 : decode cL_law 880 = .ok (.if_icmp .eq 97, 3) := by decide +kernel
theorem dL_law_883 : decode cL_law 883 = .ok (.iconst 0, 1) := by decide +kernel
theorem dL_law_884 : decode cL_law 884 = .ok (.ireturn, 1) := by decide +kernel
theorem dL_law_885 : decode cL_law 885 = .ok (.aload_n 1, 1) := by decide +kernel
theorem dL_law_886 : decode cL_law 886 = .ok (.aload_n 0, 1) := by decide +kernel
theorem dL_law_887 : decode cL_law 887 = .ok (.iload_n 3, 1) := by decide +kernel
theorem dL_law_888 : decode cL_law 888 = .ok (.iconst 1, 1) := by decide +kernel
theorem dL_law_889 : decode cL_law 889 = .ok (.iadd, 1) := by decide +kernel
theorem dL_law_890 : decode cL_law 890 = .ok (.iaload, 1) := by decide +kernel
theorem dL_law_891 : decode cL_law 891 = .ok (.aload_n 0, 1) := by decide +kernel
theorem dL_law_892 : decode cL_law 892 = .ok (.iload_n 3, 1) := by decide +kernel
theorem dL_law_893 : decode cL_law 893 = .ok (.iconst 2, 1) := by decide +kernel
theorem dL_law_894 : decode cL_law 894 = .ok (.iadd, 1) := by decide +kernel
theorem dL_law_895 : decode cL_law 895 = .ok (.iaload, 1) := by decide +kernel
theorem dL_law_896 : decode cL_law 896 = .ok (.invokevirtual 113, 3) := by decide +kernel
theorem dL_law_899 : decode cL_law 899 = .ok (.aload_n 2, 1) := by decide +kernel
theorem dL_law_900 : decode cL_law 900 = .ok (.aload_n 0, 1) := by decide +kernel
theorem dL_law_901 : decode cL_law 901 = .ok (.iload_n 3, 1) := by decide +kernel
theorem dL_law_902 : decode cL_law 902 = .ok (.iconst 1, 1) := by decide +kernel
theorem dL_law_903 : decode cL_law 903 = .ok (.iadd, 1) := by decide +kernel
theorem dL_law_904 : decode cL_law 904 = .ok (.iaload, 1) := by decide +kernel
theorem dL_law_905 : decode cL_law 905 = .ok (.aload_n 0, 1) := by decide +kernel
theorem dL_law_906 : decode cL_law 906 = .ok (.iload_n 3, 1) := by decide +kernel
theorem dL_law_907 : decode cL_law 907 = .ok (.iconst 2, 1) := by decide +kernel
theorem dL_law_908 : decode cL_law 908 = .ok (.iadd, 1) := by decide +kernel
theorem dL_law_909 : decode cL_law 909 = .ok (.iaload, 1) := by decide +kernel
theorem dL_law_910 : decode cL_law 910 = .ok (.invokevirtual 116, 3) := by decide +kernel
theorem dL_law_913 : decode cL_law 913 = .ok (.if_icmp .eq 64, 3) := by decide +kernel
theorem dL_law_916 : decode cL_law 916 = .ok (.iconst 0, 1) := by decide +kernel
theorem dL_law_917 : decode cL_law 917 = .ok (.ireturn, 1) := by decide +kernel
theorem dL_law_918 : decode cL_law 918 = .ok (.aload_n 1, 1) := by decide +kernel
theorem dL_law_919 : decode cL_law 919 = .ok (.aload_n 0, 1) := by decide +kernel
theorem dL_law_920 : decode cL_law 920 = .ok (.iload_n 3, 1) := by decide +kernel
theorem dL_law_921 : decode cL_law 921 = .ok (.iconst 1, 1) := by decide +kernel
theorem dL_law_922 : decode cL_law 922 = .ok (.iadd, 1) := by decide +kernel
theorem dL_law_923 : decode cL_law 923 = .ok (.iaload, 1) := by decide +kernel
theorem dL_law_924 : decode cL_law 924 = .ok (.invokevirtual 117, 3) := by decide +kernel
theorem dL_law_927 : decode cL_law 927 = .ok (.aload_n 2, 1) := by decide +kernel
theorem dL_law_928 : decode cL_law 928 = .ok (.aload_n 0, 1) := by decide +kernel
theorem dL_law_929 : decode cL_law 929 = .ok (.iload_n 3, 1) := by decide +kernel
theorem dL_law_930 : decode cL_law 930 = .ok (.iconst 1, 1) := by decide +kernel
theorem dL_law_931 : decode cL_law 931 = .ok (.iadd, 1) := by decide +kernel
theorem dL_law_932 : decode cL_law 932 = .ok (.iaload, 1) := by decide +kernel
theorem dL_law_933 : decode cL_law 933 = .ok (.invokevirtual 120, 3) := by decide +kernel
theorem dL_law_936 : decode cL_law 936 = .ok (.if_icmp .eq 41, 3) := by decide +kernel
theorem dL_law_939 : decode cL_law 939 = .ok (.iconst 0, 1) := by decide +kernel
theorem dL_law_940 : decode cL_law 940 = .ok (.ireturn, 1) := by decide +kernel
theorem dL_law_941 : decode cL_law 941 = .ok (.aload_n 1, 1) := by decide +kernel
theorem dL_law_942 : decode cL_law 942 = .ok (.aload_n 0, 1) := by decide +kernel
theorem dL_law_943 : decode cL_law 943 = .ok (.iload_n 3, 1) := by decide +kernel
theorem dL_law_944 : decode cL_law 944 = .ok (.iconst 1, 1) := by decide +kernel
theorem dL_law_945 : decode cL_law 945 = .ok (.iadd, 1) := by decide +kernel
theorem dL_law_946 : decode cL_law 946 = .ok (.iaload, 1) := by decide +kernel
theorem dL_law_947 : decode cL_law 947 = .ok (.invokevirtual 121, 3) := by decide +kernel
theorem dL_law_950 : decode cL_law 950 = .ok (.aload_n 2, 1) := by decide +kernel
theorem dL_law_951 : decode cL_law 951 = .ok (.aload_n 0, 1) := by decide +kernel
theorem dL_law_952 : decode cL_law 952 = .ok (.iload_n 3, 1) := by decide +kernel
theorem dL_law_953 : decode cL_law 953 = .ok (.iconst 1, 1) := by decide +kernel
theorem dL_law_954 : decode cL_law 954 = .ok (.iadd, 1) := by decide +kernel
theorem dL_law_955 : decode cL_law 955 = .ok (.iaload, 1) := by decide +kernel
theorem dL_law_956 : decode cL_law 956 = .ok (.invokevirtual 124, 3) := by decide +kernel
theorem dL_law_959 : decode cL_law 959 = .ok (.if_icmp .eq 18, 3) := by decide +kernel
theorem dL_law_962 : decode cL_law 962 = .ok (.iconst 0, 1) := by decide +kernel
theorem dL_law_963 : decode cL_law 963 = .ok (.ireturn, 1) := by decide +kernel
theorem dL_law_964 : decode cL_law 964 = .ok (.aload_n 1, 1) := by decide +kernel
theorem dL_law_965 : decode cL_law 965 = .ok (.invokevirtual 125, 3) := by decide +kernel
theorem dL_law_968 : decode cL_law 968 = .ok (.aload_n 2, 1) := by decide +kernel
theorem dL_law_969 : decode cL_law 969 = .ok (.invokevirtual 128, 3) := by decide +kernel
theorem dL_law_972 : decode cL_law 972 = .ok (.if_icmp .eq 5, 3) := by decide +kernel
theorem dL_law_975 : decode cL_law 975 = .ok (.iconst 0, 1) := by decide +kernel
theorem dL_law_976 : decode cL_law 976 = .ok (.ireturn, 1) := by decide +kernel
theorem dL_law_977 : decode cL_law 977 = .ok (.iinc 3 6, 3) := by decide +kernel
theorem dL_law_980 : decode cL_law 980 = .ok (.goto (-962), 3) := by decide +kernel
theorem dL_law_983 : decode cL_law 983 = .ok (.iconst 1, 1) := by decide +kernel
theorem dL_law_984 : decode cL_law 984 = .ok (.ireturn, 1) := by decide +kernel
end
section
/-! ===== 03: the small machine: values by Int, one memory, the judgement EV of a frame and the contract CT of a method ===== -/
abbrev MV : Type := Int ⊕ (Nat ⊕ Int)
abbrev vI (x : Int) : MV := Sum.inl x
abbrev vR (a : Nat) : MV := Sum.inr (Sum.inl a)
abbrev vL (x : Int) : MV := Sum.inr (Sum.inr x)
/-- how many addresses are taken; shapes; ints; references -/
abbrev Mem : Type := (Nat × (Nat → Nat × Nat)) × ((Nat → Int → Int) × (Nat → Nat → Nat))
def mN (M : Mem) : Nat := M.1.1
def mS (M : Mem) : Nat → Nat × Nat := M.1.2
def mI (M : Mem) : Nat → Int → Int := M.2.1
def mR (M : Mem) : Nat → Nat → Nat := M.2.2
def up2 {κ α : Type} [DecidableEq κ] (f : Nat → κ → α) (a : Nat) (k : κ) (x : α) : Nat → κ → α := fun b j => if b = a ∧ j = k then x else f b j
def mWI (M : Mem) (a : Nat) (k : Int) (x : Int) : Mem := (M.1, (up2 M.2.1 a k x, M.2.2))
def mWR (M : Mem) (a k : Nat) (x : Nat) : Mem := (M.1, (M.2.1, up2 M.2.2 a k x))
def mNew (M : Mem) (sh : Nat × Nat) : Mem := ((M.1.1 + 1, fun a => if a = M.1.1 then sh else M.1.2 a), (fun a => if a = M.1.1 then fun _ => 0 else M.2.1 a, fun a => if a = M.1.1 then fun _ => 0 else M.2.2 a))
theorem up2_self {κ α : Type} [DecidableEq κ] (f : Nat → κ → α) (a : Nat) (k : κ) (x : α) : up2 f a k x a k = x := by simp [up2]
theorem up2_ne {κ α : Type} [DecidableEq κ] (f : Nat → κ → α) {a b : Nat} {k j : κ} (x : α) (h : ¬ (b = a ∧ j = k)) : up2 f a k x b j = f b j := by simp [up2, h]
/-- the numbers of the classes and slots; the array classes of int, byte, boolean; the heap ahead of the law; the script; the Strings -/
abbrev Ctx : Type := (va_G × (ClassId × ClassId × ClassId)) × (Heap × ((Nat × (Nat → Int32)) × (Nat × ((Nat → Nat) × ((Nat → Nat) × Value)))))
def gD (G : Ctx) : va_G := G.1.1
def gI (G : Ctx) : ClassId := G.1.2.1
def gB (G : Ctx) : ClassId := G.1.2.2.1
def gZ (G : Ctx) : ClassId := G.1.2.2.2
def gH (G : Ctx) : Heap := G.2.1
def gb (G : Ctx) : Nat := (gH G).size
def gL (G : Ctx) : Nat := G.2.2.1.1
def gx (G : Ctx) : Nat → Int32 := G.2.2.1.2
def gs (G : Ctx) : Nat := G.2.2.2.1
def gK (G : Ctx) : Nat → Nat := G.2.2.2.2.1
def gV (G : Ctx) : Nat → Nat := G.2.2.2.2.2.1
def gF (G : Ctx) : Value := G.2.2.2.2.2.2
/-- where a mini address lies: 1 the script, 2 .. 10 the Strings, 11 .. 19 their bytes, from 21 on what the law makes -/
def am (G : Ctx) (a : Nat) : Nat := if a < 21 then (if a = 1 then gs G else if a < 11 then gK G (a - 2) else gV G (a - 11)) else gb G + (a - 21)
def rfv (G : Ctx) (a : Nat) : Value := if a = 0 then .null else if a = 20 then gF G else .ref (am G a)
theorem am_hi {G : Ctx} {a : Nat} (h : 21 ≤ a) : am G a = gb G + (a - 21) := by simp [am, Nat.not_lt.mpr h]
theorem rfv_hi {G : Ctx} {a : Nat} (h : 21 ≤ a) : rfv G a = .ref (am G a) := by
  have h1 : a ≠ 0 := by omega
  have h2 : a ≠ 20 := by omega
  simp [rfv, h1, h2]
def VR (G : Ctx) : MV → Value → Prop
  | .inl x, v => ∃ i : Int32, v = .int i ∧ i.toInt = x
  | .inr (.inl a), v => v = rfv G a
  | .inr (.inr x), v => ∃ i : Int64, v = .long i ∧ i.toInt = x
def VRs (G : Ctx) : List MV → List Value → Prop
  | [], [] => True
  | a :: as, v :: vs => VR G a v ∧ VRs G as vs
  | _, _ => False
def OR (G : Ctx) : Option MV → Option Value → Prop
  | none, none => True
  | some a, some v => VR G a v
  | _, _ => False
theorem VRs.c {G : Ctx} {a : MV} {as : List MV} {vs : List Value} (h : VRs G (a :: as) vs) : ∃ v vs', vs = v :: vs' ∧ VR G a v ∧ VRs G as vs' := by
  cases vs with
  | nil => exact absurd h (by simp [VRs])
  | cons v vs' => exact ⟨v, vs', rfl, h.1, h.2⟩
theorem VRs.n {G : Ctx} {vs : List Value} (h : VRs G [] vs) : vs = [] := by
  cases vs with
  | nil => rfl
  | cons v vs' => exact absurd h (by simp [VRs])
theorem VRs.len {G : Ctx} : ∀ {as : List MV} {vs : List Value}, VRs G as vs → as.length = vs.length
  | [], [], _ => rfl
  | _ :: as, _ :: vs, h => by simp [VRs.len (as := as) (vs := vs) h.2]
  | [], _ :: _, h => absurd h (by simp [VRs])
  | _ :: _, [], h => absurd h (by simp [VRs])
theorem VRs.app {G : Ctx} : ∀ {as bs : List MV} {vs ws : List Value}, VRs G as vs → VRs G bs ws → VRs G (as ++ bs) (vs ++ ws)
  | [], bs, [], ws, _, h2 => h2
  | _ :: as, bs, _ :: vs, ws, h, h2 => ⟨h.1, VRs.app (as := as) (vs := vs) h.2 h2⟩
  | [], _, _ :: _, _, h, _ => absurd h (by simp [VRs])
  | _ :: _, _, [], _, h, _ => absurd h (by simp [VRs])
theorem VRs.split {G : Ctx} : ∀ {as bs : List MV} {vs : List Value}, VRs G (as ++ bs) vs → ∃ v1 v2, vs = v1 ++ v2 ∧ VRs G as v1 ∧ VRs G bs v2
  | [], bs, vs, h => ⟨[], vs, rfl, trivial, h⟩
  | a :: as, bs, vs, h => by
    obtain ⟨v, vs', rfl, h1, h2⟩ := VRs.c (as := as ++ bs) h
    obtain ⟨v1, v2, rfl, h3, h4⟩ := VRs.split (as := as) (bs := bs) h2
    exact ⟨v :: v1, v2, rfl, ⟨h1, h3⟩, h4⟩
theorem VRs.rev {G : Ctx} : ∀ {as : List MV} {vs : List Value}, VRs G as vs → VRs G as.reverse vs.reverse
  | [], [], _ => trivial
  | a :: as, v :: vs, h => by
    rw [List.reverse_cons, List.reverse_cons]
    exact VRs.app (VRs.rev (as := as) (vs := vs) h.2) ⟨h.1, trivial⟩
  | [], _ :: _, h => absurd h (by simp [VRs])
  | _ :: _, [], h => absurd h (by simp [VRs])
/-- the classes whose objects are made -/
abbrev cls_ : List vw_C := [(RX0, TX0, 4), (RX1, TX1, 16), (RX3, TX3, 7), (RX4, TX4, 4), (RX5, TX5, 3), (RX6, TX6, 4), (RX7, TX7, 4), (RX8, TX8, 2), (RX9, TX9, 7), (RX10, TX10, 4), (RX11, TX11, 15), (RX12, TX12, 28)]
def tyC : Nat → Nat → FieldType := fun c => match c with
  | 0 => tyX0
  | 1 => tyX1
  | 2 => tyX3
  | 3 => tyX4
  | 4 => tyX5
  | 5 => tyX6
  | 6 => tyX7
  | 7 => tyX8
  | 8 => tyX9
  | 9 => tyX10
  | 10 => tyX11
  | _ => tyX12
/-- does a field hold a reference -/
def fk (c k : Nat) : Bool := match tyC c k with
  | .object _ => true
  | .array _ => true
  | _ => false
def FV (G : Ctx) (M : Mem) (a c k : Nat) (v : Value) : Prop := if fk c k = true then v = rfv G (mR M a k) else ∃ i : Int32, v = .int i ∧ i.toInt = mI M a (k : Int)
/-- an array's cell: n numbers, those of the memory at a -/
def AR (M : Mem) (a : Nat) (cA : ClassId) (n : Nat) (oc : Option Cell) : Prop := n < 2147483648 ∧ ∃ f : Nat → Int32, oc = some (arrV cA n (fun j => .int (f j))) ∧ ∀ j, j < n → (f j).toInt = mI M a (j : Int)
def CellR (G : Ctx) (M : Mem) (a : Nat) (H : Heap) : Prop := match mS M a with
  | (1, n) => AR M a (gI G) n H[am G a]?
  | (2, n) => AR M a (gB G) n H[am G a]?
  | (3, n) => AR M a (gZ G) n H[am G a]?
  | (4, c) => ∃ (r : vw_C) (V : Nat → Value), cls_[c]? = some r ∧ t_OB (am G a) ((gD G).1 c) r.2.2 ((gD G).2 c) H V ∧ ∀ k, k < r.2.2 → FV G M a c k (V k)
  | _ => True
/-- the lengths and bytes of the Strings -/
def sLen : List Nat := [3, 4, 5, 5, 3, 5, 4, 5, 4]
def sByt : List (List Int32) := [[100, 97, 121], [108, 105, 110, 101], [114, 105, 103, 104, 116], [112, 105, 101, 99, 101], [114, 101, 100], [98, 108, 97, 99, 107], [119, 111, 111, 108], [115, 104, 101, 101, 116], [115, 111, 99, 107]]
/-- what never changes: the script and the Strings, as the memory tells them -/
def GS (G : Ctx) (M : Mem) : Prop := mS M 1 = (6, gL G) ∧ (∀ j : Nat, mI M 1 (j : Int) = (gx G j).toInt) ∧ ∀ i, i < 9 → mS M (2 + i) = (5, i) ∧ mS M (11 + i) = (7, sLen.getD i 0) ∧ ∀ j : Nat, mI M (11 + i) (j : Int) = ((sByt.getD i []).getD j 0).toInt
def RepM (G : Ctx) (M : Mem) (H : Heap) : Prop := 21 ≤ mN M ∧ H.size = gb G + (mN M - 21) ∧ (∀ q, q < gb G → H[q]? = (gH G)[q]?) ∧ (∀ a, 1 ≤ (mS M a).1 → (mS M a).1 ≤ 4 → 21 ≤ a ∧ a < mN M ∧ CellR G M a H) ∧ GS G M
/-- what a state's tables say -/
def SX (G : Ctx) (s : State) : Prop := vk_S 9 sLen sByt (gK G) (gV G) (fun q => gb G ≤ q) s (gH G) ∧ va_Z "java/lang/String" "COMPACT_STRINGS" "Z" (.int 1) (fun q => gb G ≤ q) s (gH G) ∧ va_Z "jdk/internal/util/Preconditions" "SIOOBE_FORMATTER" "Ljava/util/function/BiFunction;" (gF G) (fun q => gb G ≤ q) s (gH G) ∧ (gF G = .null ∨ ∃ x, gF G = .ref x)
def sRef : List (String × Nat × String) := [(RX3, 60, "day"), (RX3, 79, "line"), (RX3, 96, "right"), (RX3, 108, "piece"), (RX3, 129, "red"), (RX3, 131, "black"), (RX3, 133, "wool"), (RX3, 135, "sheet"), (RX3, 137, "sock")]
def RX (G : Ctx) (s : State) : Prop := ∀ i q, sRef[i]? = some q → vk_R q.1 q.2.1 q.2.2 (gK G i) s
def KX (G : Ctx) (s : State) : Prop := va_K (gD G) cls_ [] s ∧ (ArrOfT s (gI G) .int ∧ ArrOfT s (gB G) .byte ∧ ArrOfT s (gZ G) .boolean) ∧ (s.vm.findClass ("[" ++ FieldType.int.toString) = some (gI G) ∧ s.vm.findClass ("[" ++ FieldType.byte.toString) = some (gB G) ∧ s.vm.findClass ("[" ++ FieldType.boolean.toString) = some (gZ G)) ∧ (va_X (gs G) (gL G) (gx G) s (gH G) ∧ gs G < gb G) ∧ SX G s ∧ RX G s
/-- the words that a callee keeps -/
def AW : List Cond := lw_tbl.filter goodWord
theorem aw_mem {w : Cond} (h : w ∈ lw_tbl) (hg : goodWord w = true) : w ∈ AW := List.mem_filter.mpr ⟨h, hg⟩
theorem aw_good {w : Cond} (h : w ∈ AW) : GoodIn AW (w :: AW) := by
  intro x hx
  have hx2 : x ∈ AW := by
    rcases List.mem_cons.mp hx with e | e
    · rw [e]; exact h
    · exact e
  exact ⟨hx2, good_of_word (List.mem_filter.mp hx2).2⟩
/-- a method: its name, its bytes, how many locals, what it returns -/
abbrev MT : Type := MethodName × (ByteArray × (Nat × Option FieldType))
def CX (G : Ctx) (mt : MT) (p : Program) (s : State) (m : MethodId) (args : Array Value) (meth : Method) (c : Code) : Prop :=
  p.tables.exec = Jvm.exec ∧ c.code = mt.2.1 ∧ c.maxLocals = mt.2.2.1 ∧ s.vm.findClass mt.1.cls = some m.cls ∧ (∀ w ∈ AW, w.before args s = true) ∧ meth.sig.returnType = mt.2.2.2 ∧ meth.locks = false ∧ meth.name = mt.1.name ∧ KX G s
def LR (G : Ctx) (ls : List (Option MV)) (lsR : Array Slot) (nL : Nat) : Prop := ∃ lv : List (Nat × Value), lv_has lsR nL lv ∧ ∀ (i : Nat) (x : MV), ls[i]? = some (some x) → ∃ v, (i, v) ∈ lv ∧ VR G x v
def QX (G : Ctx) (Q : Option MV → Mem → Prop) : Array Value → State → Outcome → State → Prop := fun _ _ o t => ∃ (r : Option MV) (v : Option Value) (M : Mem), o = .returned v ∧ OR G r v ∧ Q r M ∧ RepM G M t.heap
/-- THE JUDGEMENT: the method mt, with d frames and kc cells of ks slots left, at pc with these locals, this stack and this memory, comes to a return with Q -/
def EV (G : Ctx) (mt : MT) (d kc ks : Nat) (Q : Option MV → Mem → Prop) (pc : Nat) (ls : List (Option MV)) (st : List MV) (M : Mem) : Prop :=
  ∀ (p : Program) (l : Launch) (e : Env) (R : Room) (s : State) (m : MethodId) (args : Array Value) (below : List Frame) (meth : Method) (c : Code) (H : Heap) (locs : List Loc) (cells slots mc ms : Nat) (lsR : Array Slot) (stR : List Value),
    CX G mt p s m args meth c → (d ≤ R.frames ∧ 64 * d ≤ R.locals ∧ mc ≤ R.cells ∧ ms ≤ R.slots) → (cells + kc ≤ mc ∧ slots + ks ≤ ms) → (∀ q ∈ locs, gb G ≤ q.base) → RepM G M H → LR G ls lsR mt.2.2.1 → VRs G st stR →
    W p l e R s m args below meth c H locs cells slots (MQ below (QX G Q) args s mc ms (fun q => gb G ≤ q)) (F0 m pc lsR stR)
def PX (G : Ctx) (as : List MV) (M : Mem) : Array Value → State → Prop := fun v U => (∃ vs : List Value, v = vs.toArray ∧ VRs G as vs) ∧ RepM G M U.heap ∧ KX G U
def rmX (d mc ms : Nat) : Room := { frames := d, cells := mc, slots := ms, locals := 64 * d }
/-- THE CONTRACT of a method at these arguments and this memory -/
def CT (G : Ctx) (mt : MT) (d mc ms : Nat) (as : List MV) (M : Mem) (Q : Option MV → Mem → Prop) : Prop :=
  ∀ l : Launch, Met l mt.1 (Cond.code mt.1 mt.2.1 mt.2.2.1 mt.2.2.2 :: AW) (rmX d mc ms) (PX G as M) (QX G Q) mc ms (fun q => gb G ≤ q)
end
section
/-! ===== 04: rows of EV for instructions that leave the heap alone ===== -/
theorem i32_b {x : Int} (h1 : -2147483648 ≤ x) (h2 : x ≤ 2147483647) : x.bmod (2 ^ 32) = x := by
  rw [Int.bmod_def]
  split <;> omega
theorem i64_b {x : Int} (h1 : -9223372036854775808 ≤ x) (h2 : x ≤ 9223372036854775807) : x.bmod (2 ^ 64) = x := by
  rw [Int.bmod_def]
  split <;> omega
theorem i32_lo (i : Int32) : -2147483648 ≤ i.toInt := by have := Int32.le_toInt i; omega
theorem i32_hi (i : Int32) : i.toInt ≤ 2147483647 := by have := Int32.toInt_lt i; omega
theorem i64_lo (i : Int64) : -9223372036854775808 ≤ i.toInt := by have := Int64.le_toInt i; omega
theorem i64_hi (i : Int64) : i.toInt ≤ 9223372036854775807 := by have := Int64.toInt_lt i; omega
theorem i32_of (i : Int32) : Int32.ofInt i.toInt = i := Int32.ofInt_toInt i
theorem i64_of (i : Int64) : Int64.ofInt i.toInt = i := Int64.ofInt_toInt i
theorem i32_inj {i j : Int32} (h : i.toInt = j.toInt) : i = j := Int32.toInt_inj.mp h
theorem i32_to {x : Int} (h1 : -2147483648 ≤ x) (h2 : x ≤ 2147483647) : (Int32.ofInt x).toInt = x := by
  rw [Int32.toInt_ofInt]; exact i32_b h1 h2
theorem i64_to {x : Int} (h1 : -9223372036854775808 ≤ x) (h2 : x ≤ 9223372036854775807) : (Int64.ofInt x).toInt = x := by
  rw [Int64.toInt_ofInt]; exact i64_b h1 h2
/-- the bit operations, by their Int32 -/
def bAnd (x y : Int) : Int := (Int32.ofInt x &&& Int32.ofInt y).toInt
def bOr (x y : Int) : Int := (Int32.ofInt x ||| Int32.ofInt y).toInt
def bXor (x y : Int) : Int := (Int32.ofInt x ^^^ Int32.ofInt y).toInt
def bShl (x y : Int) : Int := (Int32.ofInt x <<< (Int32.ofInt y &&& 31)).toInt
def bShr (x y : Int) : Int := (Int32.ofInt x >>> (Int32.ofInt y &&& 31)).toInt
def bUshr (x y : Int) : Int := ((Int32.ofInt x).toUInt32 >>> ((Int32.ofInt y).toUInt32 &&& Int32.toUInt32 31)).toInt32.toInt
def bI2b (x : Int) : Int := (Int32.ofInt x).toInt8.toInt32.toInt
def bI2s (x : Int) : Int := (Int32.ofInt x).toInt16.toInt32.toInt
def bI2c (x : Int) : Int := ((Int32.ofInt x).toUInt32 % 65536).toInt32.toInt
def lAnd (x y : Int) : Int := (Int64.ofInt x &&& Int64.ofInt y).toInt
def lOr (x y : Int) : Int := (Int64.ofInt x ||| Int64.ofInt y).toInt
def lShl (x y : Int) : Int := (Int64.ofInt x <<< ((Int32.ofInt y).toInt64 &&& 63)).toInt
def lShr (x y : Int) : Int := (Int64.ofInt x >>> ((Int32.ofInt y).toInt64 &&& 63)).toInt
def lL2i (x : Int) : Int := (Int64.ofInt x).toInt32.toInt
theorem rfv_or {G : Ctx} {s : State} (h : KX G s) (a : Nat) : rfv G a = .null ∨ ∃ x, rfv G a = .ref x := by
  by_cases h0 : a = 0
  · exact Or.inl (by simp [rfv, h0])
  · by_cases h1 : a = 20
    · subst h1
      rcases h.2.2.2.2.1.2.2.2 with q | ⟨x, q⟩
      · exact Or.inl (by simp [rfv, q])
      · exact Or.inr ⟨x, by simp [rfv, q]⟩
    · exact Or.inr ⟨am G a, by simp [rfv, h0, h1]⟩
theorem vr_cat {G : Ctx} {s : State} (h : KX G s) {x : MV} {v : Value} (hv : VR G x v) : v.category = 2 → ∃ y, x = vL y := by
  match x, hv with
  | .inl x, ⟨i, e, _⟩ => intro q; rw [e] at q; cases q
  | .inr (.inl a), e => 
    intro q
    have e : v = rfv G a := e
    rcases rfv_or h a with r | ⟨y, r⟩ <;> (rw [e, r] at q; cases q)
  | .inr (.inr x), _ => intro _; exact ⟨x, rfl⟩
def pOk (ls : List (Option MV)) (i : Nat) : Bool := match i with
  | 0 => true
  | j + 1 => match ls[j]? with
    | some (some (.inr (.inr _))) => false
    | _ => true
theorem LR.get {G : Ctx} {ls : List (Option MV)} {lsR : Array Slot} {nL i : Nat} {x : MV} (h : LR G ls lsR nL) (hx : ls[i]? = some (some x)) : ∃ v, lsR[i]? = some (.val v) ∧ VR G x v := by
  obtain ⟨lv, h1, h2⟩ := h
  obtain ⟨v, h3, h4⟩ := h2 i x hx
  exact ⟨v, h1.2.2 _ h3, h4⟩
theorem LR.set1 {G : Ctx} {s : State} (hK : KX G s) {ls : List (Option MV)} {lsR : Array Slot} {nL i : Nat} {x : MV} {v : Value} (h : LR G ls lsR nL) (hx : VR G x v) (hc : v.category = 1) (hp : pOk ls i = true) (hi : i < nL) :
    ∃ ls', storeLocals lsR i v = some ls' ∧ LR G (ls.set i (some x)) ls' nL := by
  obtain ⟨lv, h1, h2⟩ := h
  obtain ⟨ls', e1, e2⟩ := lv_store1 h1 hi hc
  refine ⟨ls', e1, _, e2, ?_⟩
  intro j y hy
  rw [List.getElem?_set] at hy
  by_cases hj : i = j
  · subst hj
    rw [if_pos rfl] at hy
    split at hy
    · simp at hy; subst hy; exact ⟨v, List.mem_cons_self, hx⟩
    · cases hy
  · rw [if_neg hj] at hy
    obtain ⟨w, q1, q2⟩ := h2 j y hy
    refine ⟨w, List.mem_cons_of_mem _ (List.mem_filter.mpr ⟨q1, ?_⟩), q2⟩
    have hne : (j == i) = false := by simp; exact fun h => hj h.symm
    simp only [hne, Bool.not_false, Bool.true_and]
    by_cases hji : j + 1 = i
    · subst hji
      have hcat : ¬ w.category = 2 := by
        intro q
        obtain ⟨z, rfl⟩ := vr_cat hK q2 q
        simp [pOk, hy] at hp
      simp [hcat]
    · simp [hji]
theorem LR.set2 {G : Ctx} {s : State} (hK : KX G s) {ls : List (Option MV)} {lsR : Array Slot} {nL i : Nat} {x : MV} {v : Value} (h : LR G ls lsR nL) (hx : VR G x v) (hc : v.category = 2) (hp : pOk ls i = true) (hi : i + 1 < nL) :
    ∃ ls', storeLocals lsR i v = some ls' ∧ LR G ((ls.set i (some x)).set (i + 1) none) ls' nL := by
  obtain ⟨lv, h1, h2⟩ := h
  obtain ⟨ls', e1, e2⟩ := lv_store2 h1 hi hc
  refine ⟨ls', e1, _, e2, ?_⟩
  intro j y hy
  rw [List.getElem?_set] at hy
  by_cases hj2 : i + 1 = j
  · subst hj2
    rw [if_pos rfl] at hy
    split at hy <;> simp at hy
  rw [if_neg hj2, List.getElem?_set] at hy
  by_cases hj : i = j
  · subst hj
    rw [if_pos rfl] at hy
    split at hy
    · simp at hy; subst hy; exact ⟨v, List.mem_cons_self, hx⟩
    · cases hy
  · rw [if_neg hj] at hy
    obtain ⟨w, q1, q2⟩ := h2 j y hy
    refine ⟨w, List.mem_cons_of_mem _ (List.mem_filter.mpr ⟨q1, ?_⟩), q2⟩
    have hne : (j == i) = false := by simp; exact fun h => hj h.symm
    have hne2 : (j == i + 1) = false := by simp; exact fun h => hj2 h.symm
    simp only [hne, hne2, Bool.not_false, Bool.true_and]
    by_cases hji : j + 1 = i
    · subst hji
      have hcat : ¬ w.category = 2 := by
        intro q
        obtain ⟨z, rfl⟩ := vr_cat hK q2 q
        simp [pOk, hy] at hp
      simp [hcat]
    · simp [hji]
section EVA
variable {G : Ctx} {mt : MT} {d kc ks : Nat} {Q : Option MV → Mem → Prop} {pc : Nat} {ls : List (Option MV)} {st : List MV} {M : Mem}
theorem E_iconst {n : Int} (hd : decode mt.2.1 pc = .ok (.iconst n, 1)) (hn : (Int32.ofInt n).toInt = n := by decide) (k : EV G mt d kc ks Q (pc + 1) ls (vI n :: st) M) : EV G mt d kc ks Q pc ls st M := by
  intro p l e R s m args below meth c H locs cells slots mc ms lsR stR C hR hk hl hP hL hst
  exact lv_iconst C.1 C.2.1 hd rfl (k p l e R s m args below meth c H locs cells slots mc ms lsR _ C hR hk hl hP hL ⟨⟨_, rfl, hn⟩, hst⟩)
theorem E_bipush {n : Int} (hd : decode mt.2.1 pc = .ok (.bipush n, 2)) (hn : (Int8.ofInt n).toInt32.toInt = n := by decide) (k : EV G mt d kc ks Q (pc + 2) ls (vI n :: st) M) : EV G mt d kc ks Q pc ls st M := by
  intro p l e R s m args below meth c H locs cells slots mc ms lsR stR C hR hk hl hP hL hst
  exact lv_bipush C.1 C.2.1 hd rfl (k p l e R s m args below meth c H locs cells slots mc ms lsR _ C hR hk hl hP hL ⟨⟨_, rfl, hn⟩, hst⟩)
theorem E_sipush {n : Int} (hd : decode mt.2.1 pc = .ok (.sipush n, 3)) (hn : (Int16.ofInt n).toInt32.toInt = n := by decide) (k : EV G mt d kc ks Q (pc + 3) ls (vI n :: st) M) : EV G mt d kc ks Q pc ls st M := by
  intro p l e R s m args below meth c H locs cells slots mc ms lsR stR C hR hk hl hP hL hst
  exact lv_sipush C.1 C.2.1 hd rfl (k p l e R s m args below meth c H locs cells slots mc ms lsR _ C hR hk hl hP hL ⟨⟨_, rfl, hn⟩, hst⟩)
theorem E_lconst {n : Fin 2} {x : Int} (hd : decode mt.2.1 pc = .ok (.lconst n, 1)) (hn : (Int64.ofNat n).toInt = x) (k : EV G mt d kc ks Q (pc + 1) ls (vL x :: st) M) : EV G mt d kc ks Q pc ls st M := by
  intro p l e R s m args below meth c H locs cells slots mc ms lsR stR C hR hk hl hP hL hst
  exact lv_lconst C.1 C.2.1 hd rfl (k p l e R s m args below meth c H locs cells slots mc ms lsR _ C hR hk hl hP hL ⟨⟨_, rfl, hn⟩, hst⟩)
theorem E_ldc {i : Nat} {v : Int32} {x : Int} (hd : decode mt.2.1 pc = .ok (.ldc i, 2)) (hw : Cond.constant mt.1.cls i v ∈ AW) (hn : v.toInt = x) (k : EV G mt d kc ks Q (pc + 2) ls (vI x :: st) M) : EV G mt d kc ks Q pc ls st M := by
  intro p l e R s m args below meth c H locs cells slots mc ms lsR stR C hR hk hl hP hL hst
  exact lv_ldc C.1 C.2.1 C.2.2.2.1 (C.2.2.2.2.1 _ hw) hd (k p l e R s m args below meth c H locs cells slots mc ms lsR _ C hR hk hl hP hL ⟨⟨_, rfl, hn⟩, hst⟩)
theorem E_ldcw {i : Nat} {v : Int32} {x : Int} (hd : decode mt.2.1 pc = .ok (.ldc_w i, 3)) (hw : Cond.constant mt.1.cls i v ∈ AW) (hn : v.toInt = x) (k : EV G mt d kc ks Q (pc + 3) ls (vI x :: st) M) : EV G mt d kc ks Q pc ls st M := by
  intro p l e R s m args below meth c H locs cells slots mc ms lsR stR C hR hk hl hP hL hst
  exact lv_ldcw C.1 C.2.1 C.2.2.2.1 (C.2.2.2.2.1 _ hw) hd (k p l e R s m args below meth c H locs cells slots mc ms lsR _ C hR hk hl hP hL ⟨⟨_, rfl, hn⟩, hst⟩)
theorem E_ldc2 {i : Nat} {v : Int64} {x : Int} (hd : decode mt.2.1 pc = .ok (.ldc2_w i, 3)) (hw : Cond.constantLong mt.1.cls i v ∈ AW) (hn : v.toInt = x) (k : EV G mt d kc ks Q (pc + 3) ls (vL x :: st) M) : EV G mt d kc ks Q pc ls st M := by
  intro p l e R s m args below meth c H locs cells slots mc ms lsR stR C hR hk hl hP hL hst
  exact lv_ldc2 C.1 C.2.1 C.2.2.2.1 (C.2.2.2.2.1 _ hw) hd (k p l e R s m args below meth c H locs cells slots mc ms lsR _ C hR hk hl hP hL ⟨⟨_, rfl, hn⟩, hst⟩)
theorem E_iload_n {n : Fin 4} {x : Int} (hd : decode mt.2.1 pc = .ok (.iload_n n, 1)) (hx : ls[n.val]? = some (some (vI x))) (k : EV G mt d kc ks Q (pc + 1) ls (vI x :: st) M) : EV G mt d kc ks Q pc ls st M := by
  intro p l e R s m args below meth c H locs cells slots mc ms lsR stR C hR hk hl hP hL hst
  obtain ⟨v, h1, i, rfl, h2⟩ := hL.get hx
  exact lv_iload_n C.1 C.2.1 hd rfl h1 (k p l e R s m args below meth c H locs cells slots mc ms lsR _ C hR hk hl hP hL ⟨⟨_, rfl, h2⟩, hst⟩)
theorem E_iload {n : Nat} {x : Int} (hd : decode mt.2.1 pc = .ok (.iload n, 2)) (hx : ls[n]? = some (some (vI x))) (k : EV G mt d kc ks Q (pc + 2) ls (vI x :: st) M) : EV G mt d kc ks Q pc ls st M := by
  intro p l e R s m args below meth c H locs cells slots mc ms lsR stR C hR hk hl hP hL hst
  obtain ⟨v, h1, i, rfl, h2⟩ := hL.get hx
  exact lv_iload C.1 C.2.1 hd h1 (k p l e R s m args below meth c H locs cells slots mc ms lsR _ C hR hk hl hP hL ⟨⟨_, rfl, h2⟩, hst⟩)
theorem E_lload_n {n : Fin 4} {x : Int} (hd : decode mt.2.1 pc = .ok (.lload_n n, 1)) (hx : ls[n.val]? = some (some (vL x))) (k : EV G mt d kc ks Q (pc + 1) ls (vL x :: st) M) : EV G mt d kc ks Q pc ls st M := by
  intro p l e R s m args below meth c H locs cells slots mc ms lsR stR C hR hk hl hP hL hst
  obtain ⟨v, h1, i, rfl, h2⟩ := hL.get hx
  exact lv_lload_n C.1 C.2.1 hd rfl h1 (k p l e R s m args below meth c H locs cells slots mc ms lsR _ C hR hk hl hP hL ⟨⟨_, rfl, h2⟩, hst⟩)
theorem E_lload {n : Nat} {x : Int} (hd : decode mt.2.1 pc = .ok (.lload n, 2)) (hx : ls[n]? = some (some (vL x))) (k : EV G mt d kc ks Q (pc + 2) ls (vL x :: st) M) : EV G mt d kc ks Q pc ls st M := by
  intro p l e R s m args below meth c H locs cells slots mc ms lsR stR C hR hk hl hP hL hst
  obtain ⟨v, h1, i, rfl, h2⟩ := hL.get hx
  exact lv_lload C.1 C.2.1 hd h1 (k p l e R s m args below meth c H locs cells slots mc ms lsR _ C hR hk hl hP hL ⟨⟨_, rfl, h2⟩, hst⟩)
theorem E_aload_n {n : Fin 4} {a : Nat} (hd : decode mt.2.1 pc = .ok (.aload_n n, 1)) (hx : ls[n.val]? = some (some (vR a))) (k : EV G mt d kc ks Q (pc + 1) ls (vR a :: st) M) : EV G mt d kc ks Q pc ls st M := by
  intro p l e R s m args below meth c H locs cells slots mc ms lsR stR C hR hk hl hP hL hst
  obtain ⟨v, h1, h2⟩ := hL.get hx
  have h2 : v = rfv G a := h2
  intro T hT X
  obtain ⟨t, a1, b1⟩ := k p l e R s m args below meth c H locs cells slots mc ms lsR (v :: stR) C hR hk hl hP hL ⟨h2, hst⟩ T hT X
  refine ⟨t, ?_, b1⟩
  rcases rfv_or C.2.2.2.2.2.2.2.2 a with q | ⟨x, q⟩ <;> rw [← h2] at q <;> subst q
  · jvm_step X.here [X.here.top, C.1, C.2.1, hd, h1]
    exact ⟨rfl, a1⟩
  · jvm_step X.here [X.here.top, C.1, C.2.1, hd, h1]
    exact ⟨rfl, a1⟩
theorem E_aload {n : Nat} {a : Nat} (hd : decode mt.2.1 pc = .ok (.aload n, 2)) (hx : ls[n]? = some (some (vR a))) (k : EV G mt d kc ks Q (pc + 2) ls (vR a :: st) M) : EV G mt d kc ks Q pc ls st M := by
  intro p l e R s m args below meth c H locs cells slots mc ms lsR stR C hR hk hl hP hL hst
  obtain ⟨v, h1, h2⟩ := hL.get hx
  have h2 : v = rfv G a := h2
  intro T hT X
  obtain ⟨t, a1, b1⟩ := k p l e R s m args below meth c H locs cells slots mc ms lsR (v :: stR) C hR hk hl hP hL ⟨h2, hst⟩ T hT X
  refine ⟨t, ?_, b1⟩
  rcases rfv_or C.2.2.2.2.2.2.2.2 a with q | ⟨x, q⟩ <;> rw [← h2] at q <;> subst q
  · jvm_step X.here [X.here.top, C.1, C.2.1, hd, h1]
    exact ⟨rfl, a1⟩
  · jvm_step X.here [X.here.top, C.1, C.2.1, hd, h1]
    exact ⟨rfl, a1⟩
theorem E_istore_n {n : Fin 4} {x : Int} (hd : decode mt.2.1 pc = .ok (.istore_n n, 1)) (hp : pOk ls n.val = true := by rfl) (hi : n.val < mt.2.2.1 := by decide) (k : EV G mt d kc ks Q (pc + 1) (ls.set n.val (some (vI x))) st M) : EV G mt d kc ks Q pc ls (vI x :: st) M := by
  intro p l e R s m args below meth c H locs cells slots mc ms lsR stR C hR hk hl hP hL hst
  obtain ⟨v, rest, rfl, hv, hs1⟩ := hst.c
  obtain ⟨i, rfl, hv⟩ := hv
  obtain ⟨ls', e1, e2⟩ := hL.set1 C.2.2.2.2.2.2.2.2 (x := vI x) ⟨_, rfl, hv⟩ rfl hp hi
  intro T hT X
  obtain ⟨t, a1, b1⟩ := k p l e R s m args below meth c H locs cells slots mc ms ls' rest C hR hk hl hP e2 hs1 T hT X
  refine ⟨t, ?_, b1⟩
  jvm_step X.here [X.here.top, ↓top_set X.here.top, C.1, C.2.1, hd, e1]
  exact a1
theorem E_istore {n : Nat} {x : Int} (hd : decode mt.2.1 pc = .ok (.istore n, 2)) (hp : pOk ls n = true := by rfl) (hi : n < mt.2.2.1 := by decide) (k : EV G mt d kc ks Q (pc + 2) (ls.set n (some (vI x))) st M) : EV G mt d kc ks Q pc ls (vI x :: st) M := by
  intro p l e R s m args below meth c H locs cells slots mc ms lsR stR C hR hk hl hP hL hst
  obtain ⟨v, rest, rfl, hv, hs1⟩ := hst.c
  obtain ⟨i, rfl, hv⟩ := hv
  obtain ⟨ls', e1, e2⟩ := hL.set1 C.2.2.2.2.2.2.2.2 (x := vI x) ⟨_, rfl, hv⟩ rfl hp hi
  intro T hT X
  obtain ⟨t, a1, b1⟩ := k p l e R s m args below meth c H locs cells slots mc ms ls' rest C hR hk hl hP e2 hs1 T hT X
  refine ⟨t, ?_, b1⟩
  jvm_step X.here [X.here.top, ↓top_set X.here.top, C.1, C.2.1, hd, e1]
  exact a1
theorem E_astore_n {n : Fin 4} {a : Nat} (hd : decode mt.2.1 pc = .ok (.astore_n n, 1)) (hp : pOk ls n.val = true := by rfl) (hi : n.val < mt.2.2.1 := by decide) (k : EV G mt d kc ks Q (pc + 1) (ls.set n.val (some (vR a))) st M) : EV G mt d kc ks Q pc ls (vR a :: st) M := by
  intro p l e R s m args below meth c H locs cells slots mc ms lsR stR C hR hk hl hP hL hst
  obtain ⟨v, rest, rfl, hv, hs1⟩ := hst.c
  have hv : v = rfv G a := hv
  have hc : v.category = 1 := by rcases rfv_or C.2.2.2.2.2.2.2.2 a with q | ⟨x, q⟩ <;> rw [hv, q] <;> rfl
  obtain ⟨ls', e1, e2⟩ := hL.set1 C.2.2.2.2.2.2.2.2 (x := vR a) hv hc hp hi
  intro T hT X
  obtain ⟨t, a1, b1⟩ := k p l e R s m args below meth c H locs cells slots mc ms ls' rest C hR hk hl hP e2 hs1 T hT X
  refine ⟨t, ?_, b1⟩
  rcases rfv_or C.2.2.2.2.2.2.2.2 a with q | ⟨x, q⟩ <;> rw [← hv] at q <;> subst q
  · jvm_step X.here [X.here.top, ↓top_set X.here.top, C.1, C.2.1, hd, e1]
    exact ⟨rfl, a1⟩
  · jvm_step X.here [X.here.top, ↓top_set X.here.top, C.1, C.2.1, hd, e1]
    exact ⟨rfl, a1⟩
theorem E_astore {n : Nat} {a : Nat} (hd : decode mt.2.1 pc = .ok (.astore n, 2)) (hp : pOk ls n = true := by rfl) (hi : n < mt.2.2.1 := by decide) (k : EV G mt d kc ks Q (pc + 2) (ls.set n (some (vR a))) st M) : EV G mt d kc ks Q pc ls (vR a :: st) M := by
  intro p l e R s m args below meth c H locs cells slots mc ms lsR stR C hR hk hl hP hL hst
  obtain ⟨v, rest, rfl, hv, hs1⟩ := hst.c
  have hv : v = rfv G a := hv
  have hc : v.category = 1 := by rcases rfv_or C.2.2.2.2.2.2.2.2 a with q | ⟨x, q⟩ <;> rw [hv, q] <;> rfl
  obtain ⟨ls', e1, e2⟩ := hL.set1 C.2.2.2.2.2.2.2.2 (x := vR a) hv hc hp hi
  intro T hT X
  obtain ⟨t, a1, b1⟩ := k p l e R s m args below meth c H locs cells slots mc ms ls' rest C hR hk hl hP e2 hs1 T hT X
  refine ⟨t, ?_, b1⟩
  rcases rfv_or C.2.2.2.2.2.2.2.2 a with q | ⟨x, q⟩ <;> rw [← hv] at q <;> subst q
  · jvm_step X.here [X.here.top, ↓top_set X.here.top, C.1, C.2.1, hd, e1]
    exact ⟨rfl, a1⟩
  · jvm_step X.here [X.here.top, ↓top_set X.here.top, C.1, C.2.1, hd, e1]
    exact ⟨rfl, a1⟩
theorem E_lstore_n {n : Fin 4} {x : Int} (hd : decode mt.2.1 pc = .ok (.lstore_n n, 1)) (hp : pOk ls n.val = true := by rfl) (hi : n.val + 1 < mt.2.2.1 := by decide) (k : EV G mt d kc ks Q (pc + 1) ((ls.set n.val (some (vL x))).set (n.val + 1) none) st M) : EV G mt d kc ks Q pc ls (vL x :: st) M := by
  intro p l e R s m args below meth c H locs cells slots mc ms lsR stR C hR hk hl hP hL hst
  obtain ⟨v, rest, rfl, hv, hs1⟩ := hst.c
  obtain ⟨i, rfl, hv⟩ := hv
  obtain ⟨ls', e1, e2⟩ := hL.set2 C.2.2.2.2.2.2.2.2 (x := vL x) ⟨_, rfl, hv⟩ rfl hp hi
  intro T hT X
  obtain ⟨t, a1, b1⟩ := k p l e R s m args below meth c H locs cells slots mc ms ls' rest C hR hk hl hP e2 hs1 T hT X
  refine ⟨t, ?_, b1⟩
  jvm_step X.here [X.here.top, ↓top_set X.here.top, C.1, C.2.1, hd, e1]
  exact a1
theorem E_iinc {n : Nat} {x : Int} {z : Int} (hd : decode mt.2.1 pc = .ok (.iinc n z, 3)) (hx : ls[n]? = some (some (vI x))) (h1 : -2147483648 ≤ x + z) (h2 : x + z ≤ 2147483647) (hz : (Int32.ofInt z).toInt = z := by decide) (hp : pOk ls n = true := by rfl) (hi : n < mt.2.2.1 := by decide) (k : EV G mt d kc ks Q (pc + 3) (ls.set n (some (vI (x + z)))) st M) : EV G mt d kc ks Q pc ls st M := by
  intro p l e R s m args below meth c H locs cells slots mc ms lsR stR C hR hk hl hP hL hst
  obtain ⟨v, hg, i, rfl, hv⟩ := hL.get hx
  obtain ⟨ls', e1, e2⟩ := hL.set1 C.2.2.2.2.2.2.2.2 (x := vI (x + z)) (v := .int (i + Int32.ofInt z)) ⟨_, rfl, by rw [Int32.toInt_add, hv, hz]; exact i32_b h1 h2⟩ rfl hp hi
  intro T hT X
  obtain ⟨t, a1, b1⟩ := k p l e R s m args below meth c H locs cells slots mc ms ls' stR C hR hk hl hP e2 hst T hT X
  refine ⟨t, ?_, b1⟩
  jvm_step X.here [X.here.top, ↓top_set X.here.top, C.1, C.2.1, hd, hg, e1]
  exact a1
theorem E_iadd {x y : Int} (hd : decode mt.2.1 pc = .ok (.iadd, 1)) (h1 : -2147483648 ≤ x + y) (h2 : x + y ≤ 2147483647) (k : EV G mt d kc ks Q (pc + 1) ls (vI (x + y) :: st) M) : EV G mt d kc ks Q pc ls (vI y :: vI x :: st) M := by
  intro p l e R s m args below meth c H locs cells slots mc ms lsR stR C hR hk hl hP hL hst
  obtain ⟨v, rest, rfl, ⟨j, rfl, hj⟩, hs1⟩ := hst.c
  obtain ⟨v, rest, rfl, ⟨i, rfl, hi⟩, hs2⟩ := hs1.c
  exact lv_iadd C.1 C.2.1 hd (k p l e R s m args below meth c H locs cells slots mc ms lsR _ C hR hk hl hP hL ⟨⟨_, rfl, by rw [Int32.toInt_add, hi, hj]; exact i32_b h1 h2⟩, hs2⟩)
theorem E_isub {x y : Int} (hd : decode mt.2.1 pc = .ok (.isub, 1)) (h1 : -2147483648 ≤ x - y) (h2 : x - y ≤ 2147483647) (k : EV G mt d kc ks Q (pc + 1) ls (vI (x - y) :: st) M) : EV G mt d kc ks Q pc ls (vI y :: vI x :: st) M := by
  intro p l e R s m args below meth c H locs cells slots mc ms lsR stR C hR hk hl hP hL hst
  obtain ⟨v, rest, rfl, ⟨j, rfl, hj⟩, hs1⟩ := hst.c
  obtain ⟨v, rest, rfl, ⟨i, rfl, hi⟩, hs2⟩ := hs1.c
  exact lv_isub C.1 C.2.1 hd (k p l e R s m args below meth c H locs cells slots mc ms lsR _ C hR hk hl hP hL ⟨⟨_, rfl, by rw [Int32.toInt_sub, hi, hj]; exact i32_b h1 h2⟩, hs2⟩)
theorem E_imul {x y : Int} (hd : decode mt.2.1 pc = .ok (.imul, 1)) (h1 : -2147483648 ≤ x * y) (h2 : x * y ≤ 2147483647) (k : EV G mt d kc ks Q (pc + 1) ls (vI (x * y) :: st) M) : EV G mt d kc ks Q pc ls (vI y :: vI x :: st) M := by
  intro p l e R s m args below meth c H locs cells slots mc ms lsR stR C hR hk hl hP hL hst
  obtain ⟨v, rest, rfl, ⟨j, rfl, hj⟩, hs1⟩ := hst.c
  obtain ⟨v, rest, rfl, ⟨i, rfl, hi⟩, hs2⟩ := hs1.c
  exact lv_imul C.1 C.2.1 hd (k p l e R s m args below meth c H locs cells slots mc ms lsR _ C hR hk hl hP hL ⟨⟨_, rfl, by rw [Int32.toInt_mul, hi, hj]; exact i32_b h1 h2⟩, hs2⟩)
theorem E_idiv {x y : Int} (hd : decode mt.2.1 pc = .ok (.idiv, 1)) (hy : y ≠ 0) (h1 : -2147483648 ≤ Int.tdiv x y) (h2 : Int.tdiv x y ≤ 2147483647) (k : EV G mt d kc ks Q (pc + 1) ls (vI (Int.tdiv x y) :: st) M) : EV G mt d kc ks Q pc ls (vI y :: vI x :: st) M := by
  intro p l e R s m args below meth c H locs cells slots mc ms lsR stR C hR hk hl hP hL hst
  obtain ⟨v, rest, rfl, ⟨j, rfl, hj⟩, hs1⟩ := hst.c
  obtain ⟨v, rest, rfl, ⟨i, rfl, hi⟩, hs2⟩ := hs1.c
  have hn : ¬ j = 0 := fun q => hy (by rw [← hj, q]; rfl)
  exact lv_idiv C.1 C.2.1 hd hn (k p l e R s m args below meth c H locs cells slots mc ms lsR _ C hR hk hl hP hL ⟨⟨_, rfl, by rw [Int32.toInt_div, hi, hj]; exact i32_b h1 h2⟩, hs2⟩)
theorem E_irem {x y : Int} (hd : decode mt.2.1 pc = .ok (.irem, 1)) (hy : y ≠ 0) (h1 : -2147483648 ≤ Int.tdiv x y) (h2 : Int.tdiv x y ≤ 2147483647) (k : EV G mt d kc ks Q (pc + 1) ls (vI (Int.tmod x y) :: st) M) : EV G mt d kc ks Q pc ls (vI y :: vI x :: st) M := by
  intro p l e R s m args below meth c H locs cells slots mc ms lsR stR C hR hk hl hP hL hst
  obtain ⟨v, rest, rfl, ⟨j, rfl, hj⟩, hs1⟩ := hst.c
  obtain ⟨v, rest, rfl, ⟨i, rfl, hi⟩, hs2⟩ := hs1.c
  have hn : ¬ j = 0 := fun q => hy (by rw [← hj, q]; rfl)
  have hz : (i - i / j * j).toInt = Int.tmod x y := by
    have hdv : (i / j).toInt = Int.tdiv x y := by rw [Int32.toInt_div, hi, hj]; exact i32_b h1 h2
    have hmd : Int.tdiv x y * y = x - Int.tmod x y := by have := Int.tmod_add_mul_tdiv x y; rw [Int.mul_comm] at this; omega
    have hlo := i32_lo i
    have hhi := i32_hi i
    rw [hi] at hlo hhi
    have hab : -2147483648 ≤ Int.tmod x y ∧ Int.tmod x y ≤ 2147483647 := by
      rcases Int.le_total 0 x with h0 | h0
      · have q1 := Int.tmod_nonneg y h0
        have q2 : Int.tmod x y ≤ x := by
          have q3 := Int.natAbs_tmod x y
          have q4 := Nat.mod_le x.natAbs y.natAbs
          omega
        omega
      · have q1 := Int.tmod_nonneg y (show 0 ≤ -x by omega)
        have q2 : Int.tmod (-x) y ≤ -x := by
          have q3 := Int.natAbs_tmod (-x) y
          have q4 := Nat.mod_le (-x).natAbs y.natAbs
          omega
        rw [Int.neg_tmod] at q1 q2
        omega
    rw [Int32.toInt_sub, Int32.toInt_mul, hdv, hi, hj, hmd, Int.sub_bmod_bmod]
    rw [show x - (x - Int.tmod x y) = Int.tmod x y by omega]
    exact i32_b hab.1 hab.2
  exact lv_irem C.1 C.2.1 hd hn (k p l e R s m args below meth c H locs cells slots mc ms lsR _ C hR hk hl hP hL ⟨⟨_, rfl, hz⟩, hs2⟩)
theorem E_iand {x y : Int} (hd : decode mt.2.1 pc = .ok (.iand, 1))  (k : EV G mt d kc ks Q (pc + 1) ls (vI (bAnd x y) :: st) M) : EV G mt d kc ks Q pc ls (vI y :: vI x :: st) M := by
  intro p l e R s m args below meth c H locs cells slots mc ms lsR stR C hR hk hl hP hL hst
  obtain ⟨v, rest, rfl, ⟨j, rfl, hj⟩, hs1⟩ := hst.c
  obtain ⟨v, rest, rfl, ⟨i, rfl, hi⟩, hs2⟩ := hs1.c
  exact lv_iand C.1 C.2.1 hd (k p l e R s m args below meth c H locs cells slots mc ms lsR _ C hR hk hl hP hL ⟨⟨_, rfl, by rw [bAnd, ← hi, ← hj, i32_of, i32_of]⟩, hs2⟩)
theorem E_ior {x y : Int} (hd : decode mt.2.1 pc = .ok (.ior, 1))  (k : EV G mt d kc ks Q (pc + 1) ls (vI (bOr x y) :: st) M) : EV G mt d kc ks Q pc ls (vI y :: vI x :: st) M := by
  intro p l e R s m args below meth c H locs cells slots mc ms lsR stR C hR hk hl hP hL hst
  obtain ⟨v, rest, rfl, ⟨j, rfl, hj⟩, hs1⟩ := hst.c
  obtain ⟨v, rest, rfl, ⟨i, rfl, hi⟩, hs2⟩ := hs1.c
  exact lv_ior C.1 C.2.1 hd (k p l e R s m args below meth c H locs cells slots mc ms lsR _ C hR hk hl hP hL ⟨⟨_, rfl, by rw [bOr, ← hi, ← hj, i32_of, i32_of]⟩, hs2⟩)
theorem E_ixor {x y : Int} (hd : decode mt.2.1 pc = .ok (.ixor, 1))  (k : EV G mt d kc ks Q (pc + 1) ls (vI (bXor x y) :: st) M) : EV G mt d kc ks Q pc ls (vI y :: vI x :: st) M := by
  intro p l e R s m args below meth c H locs cells slots mc ms lsR stR C hR hk hl hP hL hst
  obtain ⟨v, rest, rfl, ⟨j, rfl, hj⟩, hs1⟩ := hst.c
  obtain ⟨v, rest, rfl, ⟨i, rfl, hi⟩, hs2⟩ := hs1.c
  exact lv_ixor C.1 C.2.1 hd (k p l e R s m args below meth c H locs cells slots mc ms lsR _ C hR hk hl hP hL ⟨⟨_, rfl, by rw [bXor, ← hi, ← hj, i32_of, i32_of]⟩, hs2⟩)
theorem E_ishl {x y : Int} (hd : decode mt.2.1 pc = .ok (.ishl, 1))  (k : EV G mt d kc ks Q (pc + 1) ls (vI (bShl x y) :: st) M) : EV G mt d kc ks Q pc ls (vI y :: vI x :: st) M := by
  intro p l e R s m args below meth c H locs cells slots mc ms lsR stR C hR hk hl hP hL hst
  obtain ⟨v, rest, rfl, ⟨j, rfl, hj⟩, hs1⟩ := hst.c
  obtain ⟨v, rest, rfl, ⟨i, rfl, hi⟩, hs2⟩ := hs1.c
  exact lv_ishl C.1 C.2.1 hd (k p l e R s m args below meth c H locs cells slots mc ms lsR _ C hR hk hl hP hL ⟨⟨_, rfl, by rw [bShl, ← hi, ← hj, i32_of, i32_of]⟩, hs2⟩)
theorem E_ishr {x y : Int} (hd : decode mt.2.1 pc = .ok (.ishr, 1))  (k : EV G mt d kc ks Q (pc + 1) ls (vI (bShr x y) :: st) M) : EV G mt d kc ks Q pc ls (vI y :: vI x :: st) M := by
  intro p l e R s m args below meth c H locs cells slots mc ms lsR stR C hR hk hl hP hL hst
  obtain ⟨v, rest, rfl, ⟨j, rfl, hj⟩, hs1⟩ := hst.c
  obtain ⟨v, rest, rfl, ⟨i, rfl, hi⟩, hs2⟩ := hs1.c
  exact lv_ishr C.1 C.2.1 hd (k p l e R s m args below meth c H locs cells slots mc ms lsR _ C hR hk hl hP hL ⟨⟨_, rfl, by rw [bShr, ← hi, ← hj, i32_of, i32_of]⟩, hs2⟩)
theorem E_iushr {x y : Int} (hd : decode mt.2.1 pc = .ok (.iushr, 1))  (k : EV G mt d kc ks Q (pc + 1) ls (vI (bUshr x y) :: st) M) : EV G mt d kc ks Q pc ls (vI y :: vI x :: st) M := by
  intro p l e R s m args below meth c H locs cells slots mc ms lsR stR C hR hk hl hP hL hst
  obtain ⟨v, rest, rfl, ⟨j, rfl, hj⟩, hs1⟩ := hst.c
  obtain ⟨v, rest, rfl, ⟨i, rfl, hi⟩, hs2⟩ := hs1.c
  exact lv_iushr C.1 C.2.1 hd rfl (k p l e R s m args below meth c H locs cells slots mc ms lsR _ C hR hk hl hP hL ⟨⟨_, rfl, by rw [bUshr, ← hi, ← hj, i32_of, i32_of]⟩, hs2⟩)
theorem E_ladd {x y : Int} (hd : decode mt.2.1 pc = .ok (.ladd, 1)) (h1 : -9223372036854775808 ≤ x + y) (h2 : x + y ≤ 9223372036854775807) (k : EV G mt d kc ks Q (pc + 1) ls (vL (x + y) :: st) M) : EV G mt d kc ks Q pc ls (vL y :: vL x :: st) M := by
  intro p l e R s m args below meth c H locs cells slots mc ms lsR stR C hR hk hl hP hL hst
  obtain ⟨v, rest, rfl, ⟨j, rfl, hj⟩, hs1⟩ := hst.c
  obtain ⟨v, rest, rfl, ⟨i, rfl, hi⟩, hs2⟩ := hs1.c
  exact lv_ladd C.1 C.2.1 hd (k p l e R s m args below meth c H locs cells slots mc ms lsR _ C hR hk hl hP hL ⟨⟨_, rfl, by rw [Int64.toInt_add, hi, hj]; exact i64_b h1 h2⟩, hs2⟩)
theorem E_land {x y : Int} (hd : decode mt.2.1 pc = .ok (.land, 1))  (k : EV G mt d kc ks Q (pc + 1) ls (vL (lAnd x y) :: st) M) : EV G mt d kc ks Q pc ls (vL y :: vL x :: st) M := by
  intro p l e R s m args below meth c H locs cells slots mc ms lsR stR C hR hk hl hP hL hst
  obtain ⟨v, rest, rfl, ⟨j, rfl, hj⟩, hs1⟩ := hst.c
  obtain ⟨v, rest, rfl, ⟨i, rfl, hi⟩, hs2⟩ := hs1.c
  exact lv_land C.1 C.2.1 hd (k p l e R s m args below meth c H locs cells slots mc ms lsR _ C hR hk hl hP hL ⟨⟨_, rfl, by rw [lAnd, ← hi, ← hj, i64_of, i64_of]⟩, hs2⟩)
theorem E_lor {x y : Int} (hd : decode mt.2.1 pc = .ok (.lor, 1))  (k : EV G mt d kc ks Q (pc + 1) ls (vL (lOr x y) :: st) M) : EV G mt d kc ks Q pc ls (vL y :: vL x :: st) M := by
  intro p l e R s m args below meth c H locs cells slots mc ms lsR stR C hR hk hl hP hL hst
  obtain ⟨v, rest, rfl, ⟨j, rfl, hj⟩, hs1⟩ := hst.c
  obtain ⟨v, rest, rfl, ⟨i, rfl, hi⟩, hs2⟩ := hs1.c
  exact lv_lor C.1 C.2.1 hd (k p l e R s m args below meth c H locs cells slots mc ms lsR _ C hR hk hl hP hL ⟨⟨_, rfl, by rw [lOr, ← hi, ← hj, i64_of, i64_of]⟩, hs2⟩)
theorem E_lshl {x y : Int} (hd : decode mt.2.1 pc = .ok (.lshl, 1)) (k : EV G mt d kc ks Q (pc + 1) ls (vL (lShl x y) :: st) M) : EV G mt d kc ks Q pc ls (vI y :: vL x :: st) M := by
  intro p l e R s m args below meth c H locs cells slots mc ms lsR stR C hR hk hl hP hL hst
  obtain ⟨v, rest, rfl, ⟨j, rfl, hj⟩, hs1⟩ := hst.c
  obtain ⟨v, rest, rfl, ⟨i, rfl, hi⟩, hs2⟩ := hs1.c
  exact lv_lshl C.1 C.2.1 hd rfl (k p l e R s m args below meth c H locs cells slots mc ms lsR _ C hR hk hl hP hL ⟨⟨_, rfl, by rw [lShl, ← hi, ← hj, i64_of, i32_of]⟩, hs2⟩)
theorem E_lshr {x y : Int} (hd : decode mt.2.1 pc = .ok (.lshr, 1)) (k : EV G mt d kc ks Q (pc + 1) ls (vL (lShr x y) :: st) M) : EV G mt d kc ks Q pc ls (vI y :: vL x :: st) M := by
  intro p l e R s m args below meth c H locs cells slots mc ms lsR stR C hR hk hl hP hL hst
  obtain ⟨v, rest, rfl, ⟨j, rfl, hj⟩, hs1⟩ := hst.c
  obtain ⟨v, rest, rfl, ⟨i, rfl, hi⟩, hs2⟩ := hs1.c
  exact lv_lshr C.1 C.2.1 hd rfl (k p l e R s m args below meth c H locs cells slots mc ms lsR _ C hR hk hl hP hL ⟨⟨_, rfl, by rw [lShr, ← hi, ← hj, i64_of, i32_of]⟩, hs2⟩)
theorem E_ineg {x : Int} (hd : decode mt.2.1 pc = .ok (.ineg, 1)) (h1 : -2147483648 ≤ -x) (h2 : -x ≤ 2147483647) (k : EV G mt d kc ks Q (pc + 1) ls (vI (-x) :: st) M) : EV G mt d kc ks Q pc ls (vI x :: st) M := by
  intro p l e R s m args below meth c H locs cells slots mc ms lsR stR C hR hk hl hP hL hst
  obtain ⟨v, rest, rfl, ⟨i, rfl, hi⟩, hs1⟩ := hst.c
  exact lv_ineg C.1 C.2.1 hd (k p l e R s m args below meth c H locs cells slots mc ms lsR _ C hR hk hl hP hL ⟨⟨_, rfl, by rw [Int32.toInt_neg, hi]; exact i32_b h1 h2⟩, hs1⟩)
theorem E_i2l {x : Int} (hd : decode mt.2.1 pc = .ok (.i2l, 1))  (k : EV G mt d kc ks Q (pc + 1) ls (vL (x) :: st) M) : EV G mt d kc ks Q pc ls (vI x :: st) M := by
  intro p l e R s m args below meth c H locs cells slots mc ms lsR stR C hR hk hl hP hL hst
  obtain ⟨v, rest, rfl, ⟨i, rfl, hi⟩, hs1⟩ := hst.c
  exact lv_i2l C.1 C.2.1 hd rfl (k p l e R s m args below meth c H locs cells slots mc ms lsR _ C hR hk hl hP hL ⟨⟨_, rfl, by rw [Int32.toInt_toInt64, hi]⟩, hs1⟩)
theorem E_l2i {x : Int} (hd : decode mt.2.1 pc = .ok (.l2i, 1))  (k : EV G mt d kc ks Q (pc + 1) ls (vI (lL2i x) :: st) M) : EV G mt d kc ks Q pc ls (vL x :: st) M := by
  intro p l e R s m args below meth c H locs cells slots mc ms lsR stR C hR hk hl hP hL hst
  obtain ⟨v, rest, rfl, ⟨i, rfl, hi⟩, hs1⟩ := hst.c
  exact lv_l2i C.1 C.2.1 hd rfl (k p l e R s m args below meth c H locs cells slots mc ms lsR _ C hR hk hl hP hL ⟨⟨_, rfl, by rw [lL2i, ← hi, i64_of]⟩, hs1⟩)
theorem E_i2b {x : Int} (hd : decode mt.2.1 pc = .ok (.i2b, 1))  (k : EV G mt d kc ks Q (pc + 1) ls (vI (bI2b x) :: st) M) : EV G mt d kc ks Q pc ls (vI x :: st) M := by
  intro p l e R s m args below meth c H locs cells slots mc ms lsR stR C hR hk hl hP hL hst
  obtain ⟨v, rest, rfl, ⟨i, rfl, hi⟩, hs1⟩ := hst.c
  exact lv_i2b C.1 C.2.1 hd rfl (k p l e R s m args below meth c H locs cells slots mc ms lsR _ C hR hk hl hP hL ⟨⟨_, rfl, by rw [bI2b, ← hi, i32_of]⟩, hs1⟩)
theorem E_i2s {x : Int} (hd : decode mt.2.1 pc = .ok (.i2s, 1))  (k : EV G mt d kc ks Q (pc + 1) ls (vI (bI2s x) :: st) M) : EV G mt d kc ks Q pc ls (vI x :: st) M := by
  intro p l e R s m args below meth c H locs cells slots mc ms lsR stR C hR hk hl hP hL hst
  obtain ⟨v, rest, rfl, ⟨i, rfl, hi⟩, hs1⟩ := hst.c
  exact lv_i2s C.1 C.2.1 hd rfl (k p l e R s m args below meth c H locs cells slots mc ms lsR _ C hR hk hl hP hL ⟨⟨_, rfl, by rw [bI2s, ← hi, i32_of]⟩, hs1⟩)
theorem E_i2c {x : Int} (hd : decode mt.2.1 pc = .ok (.i2c, 1))  (k : EV G mt d kc ks Q (pc + 1) ls (vI (bI2c x) :: st) M) : EV G mt d kc ks Q pc ls (vI x :: st) M := by
  intro p l e R s m args below meth c H locs cells slots mc ms lsR stR C hR hk hl hP hL hst
  obtain ⟨v, rest, rfl, ⟨i, rfl, hi⟩, hs1⟩ := hst.c
  exact lv_i2c C.1 C.2.1 hd rfl (k p l e R s m args below meth c H locs cells slots mc ms lsR _ C hR hk hl hP hL ⟨⟨_, rfl, by rw [bI2c, ← hi, i32_of]⟩, hs1⟩)
theorem E_lcmp {x y : Int} (hd : decode mt.2.1 pc = .ok (.lcmp, 1)) (k1 : x < y → EV G mt d kc ks Q (pc + 1) ls (vI (-1) :: st) M) (k2 : x = y → EV G mt d kc ks Q (pc + 1) ls (vI 0 :: st) M) (k3 : y < x → EV G mt d kc ks Q (pc + 1) ls (vI 1 :: st) M) : EV G mt d kc ks Q pc ls (vL y :: vL x :: st) M := by
  intro p l e R s m args below meth c H locs cells slots mc ms lsR stR C hR hk hl hP hL hst
  obtain ⟨v, rest, rfl, ⟨j, rfl, hj⟩, hs1⟩ := hst.c
  obtain ⟨v, rest, rfl, ⟨i, rfl, hi⟩, hs2⟩ := hs1.c
  refine W.lcmp C.1 C.2.1 hd ?_
  have e1 : i < j ↔ x < y := by rw [Int64.lt_iff_toInt_lt, hi, hj]
  have e2 : i = j ↔ x = y := ⟨fun q => by rw [← hi, ← hj, q], fun q => Int64.toInt_inj.mp (by rw [hi, hj, q])⟩
  have e3 : j < i ↔ y < x := by rw [Int64.lt_iff_toInt_lt, hi, hj]
  rcases Int.lt_trichotomy x y with q | q | q
  · have q1 : ¬ y < x := by omega
    have q2 : ¬ x = y := by omega
    have hc : (lg_cmp i j).toInt = -1 := by simp only [lg_cmp, e1, e2, e3, q1, q2, q, if_true, if_false, GT.gt]; decide
    exact k1 q p l e R s m args below meth c H locs cells slots mc ms lsR _ C hR hk hl hP hL ⟨⟨_, rfl, hc⟩, hs2⟩
  · have hc : (lg_cmp i j).toInt = 0 := by
      have z := e2.mpr q
      subst z
      simp [lg_cmp]
    exact k2 q p l e R s m args below meth c H locs cells slots mc ms lsR _ C hR hk hl hP hL ⟨⟨_, rfl, hc⟩, hs2⟩
  · have q1 : ¬ x < y := by omega
    have q2 : ¬ x = y := by omega
    have hc : (lg_cmp i j).toInt = 1 := by simp [lg_cmp, e1, e2, e3, q1, q2, q]
    exact k3 q p l e R s m args below meth c H locs cells slots mc ms lsR _ C hR hk hl hP hL ⟨⟨_, rfl, hc⟩, hs2⟩
theorem E_if_eq {x : Int} {off : Int} {tgt : Nat} (hd : decode mt.2.1 pc = .ok (.ifCond .eq off, 3)) (ht : (pc : Int) + off = (tgt : Int)) (kt : x = 0 → EV G mt d kc ks Q tgt ls st M) (kf : ¬ x = 0 → EV G mt d kc ks Q (pc + 3) ls st M) : EV G mt d kc ks Q pc ls (vI x :: st) M := by
  intro p l e R s m args below meth c H locs cells slots mc ms lsR stR C hR hk hl hP hL hst
  obtain ⟨v, rest, rfl, ⟨i, rfl, hi⟩, hs1⟩ := hst.c
  have z : (0 : Int32).toInt = 0 := rfl
  have w : i = 0 ↔ x = 0 := ⟨fun q => by rw [← hi, q, z], fun q => i32_inj (by rw [hi, q, z])⟩
  exact lv_if_eq C.1 C.2.1 hd ht (fun q => kt (w.mp q) p l e R s m args below meth c H locs cells slots mc ms lsR _ C hR hk hl hP hL hs1) (fun q => kf (fun h => q (w.mpr h)) p l e R s m args below meth c H locs cells slots mc ms lsR _ C hR hk hl hP hL hs1)
theorem E_icmp_eq {x y : Int} {off : Int} {tgt : Nat} (hd : decode mt.2.1 pc = .ok (.if_icmp .eq off, 3)) (ht : (pc : Int) + off = (tgt : Int)) (kt : x = y → EV G mt d kc ks Q tgt ls st M) (kf : ¬ x = y → EV G mt d kc ks Q (pc + 3) ls st M) : EV G mt d kc ks Q pc ls (vI y :: vI x :: st) M := by
  intro p l e R s m args below meth c H locs cells slots mc ms lsR stR C hR hk hl hP hL hst
  obtain ⟨v, rest, rfl, ⟨j, rfl, hj⟩, hs1⟩ := hst.c
  obtain ⟨v, rest, rfl, ⟨i, rfl, hi⟩, hs2⟩ := hs1.c
  have w : i = j ↔ x = y := ⟨fun q => by rw [← hi, ← hj, q], fun q => i32_inj (by rw [hi, hj, q])⟩
  exact lv_icmp_eq C.1 C.2.1 hd ht (fun q => kt (w.mp q) p l e R s m args below meth c H locs cells slots mc ms lsR _ C hR hk hl hP hL hs2) (fun q => kf (fun h => q (w.mpr h)) p l e R s m args below meth c H locs cells slots mc ms lsR _ C hR hk hl hP hL hs2)
theorem E_if_ne {x : Int} {off : Int} {tgt : Nat} (hd : decode mt.2.1 pc = .ok (.ifCond .ne off, 3)) (ht : (pc : Int) + off = (tgt : Int)) (kt : x ≠ 0 → EV G mt d kc ks Q tgt ls st M) (kf : ¬ x ≠ 0 → EV G mt d kc ks Q (pc + 3) ls st M) : EV G mt d kc ks Q pc ls (vI x :: st) M := by
  intro p l e R s m args below meth c H locs cells slots mc ms lsR stR C hR hk hl hP hL hst
  obtain ⟨v, rest, rfl, ⟨i, rfl, hi⟩, hs1⟩ := hst.c
  have z : (0 : Int32).toInt = 0 := rfl
  have w : i = 0 ↔ x = 0 := ⟨fun q => by rw [← hi, q, z], fun q => i32_inj (by rw [hi, q, z])⟩
  exact lv_if_ne C.1 C.2.1 hd ht (fun q => kt (fun h => q (w.mpr h)) p l e R s m args below meth c H locs cells slots mc ms lsR _ C hR hk hl hP hL hs1) (fun q => kf (fun h => h (w.mp q)) p l e R s m args below meth c H locs cells slots mc ms lsR _ C hR hk hl hP hL hs1)
theorem E_icmp_ne {x y : Int} {off : Int} {tgt : Nat} (hd : decode mt.2.1 pc = .ok (.if_icmp .ne off, 3)) (ht : (pc : Int) + off = (tgt : Int)) (kt : x ≠ y → EV G mt d kc ks Q tgt ls st M) (kf : ¬ x ≠ y → EV G mt d kc ks Q (pc + 3) ls st M) : EV G mt d kc ks Q pc ls (vI y :: vI x :: st) M := by
  intro p l e R s m args below meth c H locs cells slots mc ms lsR stR C hR hk hl hP hL hst
  obtain ⟨v, rest, rfl, ⟨j, rfl, hj⟩, hs1⟩ := hst.c
  obtain ⟨v, rest, rfl, ⟨i, rfl, hi⟩, hs2⟩ := hs1.c
  have w : i = j ↔ x = y := ⟨fun q => by rw [← hi, ← hj, q], fun q => i32_inj (by rw [hi, hj, q])⟩
  exact lv_icmp_ne C.1 C.2.1 hd ht (fun q => kt (fun h => q (w.mpr h)) p l e R s m args below meth c H locs cells slots mc ms lsR _ C hR hk hl hP hL hs2) (fun q => kf (fun h => h (w.mp q)) p l e R s m args below meth c H locs cells slots mc ms lsR _ C hR hk hl hP hL hs2)
theorem E_if_lt {x : Int} {off : Int} {tgt : Nat} (hd : decode mt.2.1 pc = .ok (.ifCond .lt off, 3)) (ht : (pc : Int) + off = (tgt : Int)) (kt : x < 0 → EV G mt d kc ks Q tgt ls st M) (kf : ¬ x < 0 → EV G mt d kc ks Q (pc + 3) ls st M) : EV G mt d kc ks Q pc ls (vI x :: st) M := by
  intro p l e R s m args below meth c H locs cells slots mc ms lsR stR C hR hk hl hP hL hst
  obtain ⟨v, rest, rfl, ⟨i, rfl, hi⟩, hs1⟩ := hst.c
  have z : (0 : Int32).toInt = 0 := rfl
  exact lv_if_lt C.1 C.2.1 hd ht (fun q => kt (by rw [Int32.lt_iff_toInt_lt, hi, z] at q; exact q) p l e R s m args below meth c H locs cells slots mc ms lsR _ C hR hk hl hP hL hs1) (fun q => kf (by rw [Int32.lt_iff_toInt_lt, hi, z] at q; exact q) p l e R s m args below meth c H locs cells slots mc ms lsR _ C hR hk hl hP hL hs1)
theorem E_icmp_lt {x y : Int} {off : Int} {tgt : Nat} (hd : decode mt.2.1 pc = .ok (.if_icmp .lt off, 3)) (ht : (pc : Int) + off = (tgt : Int)) (kt : x < y → EV G mt d kc ks Q tgt ls st M) (kf : ¬ x < y → EV G mt d kc ks Q (pc + 3) ls st M) : EV G mt d kc ks Q pc ls (vI y :: vI x :: st) M := by
  intro p l e R s m args below meth c H locs cells slots mc ms lsR stR C hR hk hl hP hL hst
  obtain ⟨v, rest, rfl, ⟨j, rfl, hj⟩, hs1⟩ := hst.c
  obtain ⟨v, rest, rfl, ⟨i, rfl, hi⟩, hs2⟩ := hs1.c
  exact lv_icmp_lt C.1 C.2.1 hd ht (fun q => kt (by rw [Int32.lt_iff_toInt_lt, hi, hj] at q; exact q) p l e R s m args below meth c H locs cells slots mc ms lsR _ C hR hk hl hP hL hs2) (fun q => kf (by rw [Int32.lt_iff_toInt_lt, hi, hj] at q; exact q) p l e R s m args below meth c H locs cells slots mc ms lsR _ C hR hk hl hP hL hs2)
theorem E_if_ge {x : Int} {off : Int} {tgt : Nat} (hd : decode mt.2.1 pc = .ok (.ifCond .ge off, 3)) (ht : (pc : Int) + off = (tgt : Int)) (kt : 0 ≤ x → EV G mt d kc ks Q tgt ls st M) (kf : ¬ 0 ≤ x → EV G mt d kc ks Q (pc + 3) ls st M) : EV G mt d kc ks Q pc ls (vI x :: st) M := by
  intro p l e R s m args below meth c H locs cells slots mc ms lsR stR C hR hk hl hP hL hst
  obtain ⟨v, rest, rfl, ⟨i, rfl, hi⟩, hs1⟩ := hst.c
  have z : (0 : Int32).toInt = 0 := rfl
  exact lv_if_ge C.1 C.2.1 hd ht (fun q => kt (by rw [Int32.le_iff_toInt_le, hi, z] at q; exact q) p l e R s m args below meth c H locs cells slots mc ms lsR _ C hR hk hl hP hL hs1) (fun q => kf (by rw [Int32.le_iff_toInt_le, hi, z] at q; exact q) p l e R s m args below meth c H locs cells slots mc ms lsR _ C hR hk hl hP hL hs1)
theorem E_icmp_ge {x y : Int} {off : Int} {tgt : Nat} (hd : decode mt.2.1 pc = .ok (.if_icmp .ge off, 3)) (ht : (pc : Int) + off = (tgt : Int)) (kt : y ≤ x → EV G mt d kc ks Q tgt ls st M) (kf : ¬ y ≤ x → EV G mt d kc ks Q (pc + 3) ls st M) : EV G mt d kc ks Q pc ls (vI y :: vI x :: st) M := by
  intro p l e R s m args below meth c H locs cells slots mc ms lsR stR C hR hk hl hP hL hst
  obtain ⟨v, rest, rfl, ⟨j, rfl, hj⟩, hs1⟩ := hst.c
  obtain ⟨v, rest, rfl, ⟨i, rfl, hi⟩, hs2⟩ := hs1.c
  exact lv_icmp_ge C.1 C.2.1 hd ht (fun q => kt (by rw [Int32.le_iff_toInt_le, hi, hj] at q; exact q) p l e R s m args below meth c H locs cells slots mc ms lsR _ C hR hk hl hP hL hs2) (fun q => kf (by rw [Int32.le_iff_toInt_le, hi, hj] at q; exact q) p l e R s m args below meth c H locs cells slots mc ms lsR _ C hR hk hl hP hL hs2)
theorem E_if_gt {x : Int} {off : Int} {tgt : Nat} (hd : decode mt.2.1 pc = .ok (.ifCond .gt off, 3)) (ht : (pc : Int) + off = (tgt : Int)) (kt : 0 < x → EV G mt d kc ks Q tgt ls st M) (kf : ¬ 0 < x → EV G mt d kc ks Q (pc + 3) ls st M) : EV G mt d kc ks Q pc ls (vI x :: st) M := by
  intro p l e R s m args below meth c H locs cells slots mc ms lsR stR C hR hk hl hP hL hst
  obtain ⟨v, rest, rfl, ⟨i, rfl, hi⟩, hs1⟩ := hst.c
  have z : (0 : Int32).toInt = 0 := rfl
  exact lv_if_gt C.1 C.2.1 hd ht (fun q => kt (by rw [Int32.lt_iff_toInt_lt, hi, z] at q; exact q) p l e R s m args below meth c H locs cells slots mc ms lsR _ C hR hk hl hP hL hs1) (fun q => kf (by rw [Int32.lt_iff_toInt_lt, hi, z] at q; exact q) p l e R s m args below meth c H locs cells slots mc ms lsR _ C hR hk hl hP hL hs1)
theorem E_icmp_gt {x y : Int} {off : Int} {tgt : Nat} (hd : decode mt.2.1 pc = .ok (.if_icmp .gt off, 3)) (ht : (pc : Int) + off = (tgt : Int)) (kt : y < x → EV G mt d kc ks Q tgt ls st M) (kf : ¬ y < x → EV G mt d kc ks Q (pc + 3) ls st M) : EV G mt d kc ks Q pc ls (vI y :: vI x :: st) M := by
  intro p l e R s m args below meth c H locs cells slots mc ms lsR stR C hR hk hl hP hL hst
  obtain ⟨v, rest, rfl, ⟨j, rfl, hj⟩, hs1⟩ := hst.c
  obtain ⟨v, rest, rfl, ⟨i, rfl, hi⟩, hs2⟩ := hs1.c
  exact lv_icmp_gt C.1 C.2.1 hd ht (fun q => kt (by rw [Int32.lt_iff_toInt_lt, hi, hj] at q; exact q) p l e R s m args below meth c H locs cells slots mc ms lsR _ C hR hk hl hP hL hs2) (fun q => kf (by rw [Int32.lt_iff_toInt_lt, hi, hj] at q; exact q) p l e R s m args below meth c H locs cells slots mc ms lsR _ C hR hk hl hP hL hs2)
theorem E_if_le {x : Int} {off : Int} {tgt : Nat} (hd : decode mt.2.1 pc = .ok (.ifCond .le off, 3)) (ht : (pc : Int) + off = (tgt : Int)) (kt : x ≤ 0 → EV G mt d kc ks Q tgt ls st M) (kf : ¬ x ≤ 0 → EV G mt d kc ks Q (pc + 3) ls st M) : EV G mt d kc ks Q pc ls (vI x :: st) M := by
  intro p l e R s m args below meth c H locs cells slots mc ms lsR stR C hR hk hl hP hL hst
  obtain ⟨v, rest, rfl, ⟨i, rfl, hi⟩, hs1⟩ := hst.c
  have z : (0 : Int32).toInt = 0 := rfl
  exact lv_if_le C.1 C.2.1 hd ht (fun q => kt (by rw [Int32.le_iff_toInt_le, hi, z] at q; exact q) p l e R s m args below meth c H locs cells slots mc ms lsR _ C hR hk hl hP hL hs1) (fun q => kf (by rw [Int32.le_iff_toInt_le, hi, z] at q; exact q) p l e R s m args below meth c H locs cells slots mc ms lsR _ C hR hk hl hP hL hs1)
theorem E_icmp_le {x y : Int} {off : Int} {tgt : Nat} (hd : decode mt.2.1 pc = .ok (.if_icmp .le off, 3)) (ht : (pc : Int) + off = (tgt : Int)) (kt : x ≤ y → EV G mt d kc ks Q tgt ls st M) (kf : ¬ x ≤ y → EV G mt d kc ks Q (pc + 3) ls st M) : EV G mt d kc ks Q pc ls (vI y :: vI x :: st) M := by
  intro p l e R s m args below meth c H locs cells slots mc ms lsR stR C hR hk hl hP hL hst
  obtain ⟨v, rest, rfl, ⟨j, rfl, hj⟩, hs1⟩ := hst.c
  obtain ⟨v, rest, rfl, ⟨i, rfl, hi⟩, hs2⟩ := hs1.c
  exact lv_icmp_le C.1 C.2.1 hd ht (fun q => kt (by rw [Int32.le_iff_toInt_le, hi, hj] at q; exact q) p l e R s m args below meth c H locs cells slots mc ms lsR _ C hR hk hl hP hL hs2) (fun q => kf (by rw [Int32.le_iff_toInt_le, hi, hj] at q; exact q) p l e R s m args below meth c H locs cells slots mc ms lsR _ C hR hk hl hP hL hs2)
theorem E_goto {off : Int} {tgt : Nat} (hd : decode mt.2.1 pc = .ok (.goto off, 3)) (ht : (pc : Int) + off = (tgt : Int)) (k : EV G mt d kc ks Q tgt ls st M) : EV G mt d kc ks Q pc ls st M := by
  intro p l e R s m args below meth c H locs cells slots mc ms lsR stR C hR hk hl hP hL hst
  exact lv_goto C.1 C.2.1 hd ht (k p l e R s m args below meth c H locs cells slots mc ms lsR _ C hR hk hl hP hL hst)
theorem E_tabIn {x : Int} {dflt lo hi : Int} {offs : Array Int} {len : Nat} {off : Int} {tgt : Nat} (hd : decode mt.2.1 pc = .ok (.tableswitch dflt lo hi offs, len)) (h1 : lo ≤ x) (h2 : x ≤ hi) (ho : offs[(x - lo).toNat]? = some off) (ht : (pc : Int) + off = (tgt : Int)) (k : EV G mt d kc ks Q tgt ls st M) : EV G mt d kc ks Q pc ls (vI x :: st) M := by
  intro p l e R s m args below meth c H locs cells slots mc ms lsR stR C hR hk hl hP hL hst
  obtain ⟨v, rest, rfl, ⟨i, rfl, hi⟩, hs1⟩ := hst.c
  exact lv_tableIn C.1 C.2.1 hd (by rw [hi]; omega) (by rw [hi]; omega) (by rw [hi]; exact ho) ht (k p l e R s m args below meth c H locs cells slots mc ms lsR _ C hR hk hl hP hL hs1)
theorem E_tabOut {x : Int} {dflt lo hi : Int} {offs : Array Int} {len : Nat} {tgt : Nat} (hd : decode mt.2.1 pc = .ok (.tableswitch dflt lo hi offs, len)) (h : x < lo ∨ hi < x) (ht : (pc : Int) + dflt = (tgt : Int)) (k : EV G mt d kc ks Q tgt ls st M) : EV G mt d kc ks Q pc ls (vI x :: st) M := by
  intro p l e R s m args below meth c H locs cells slots mc ms lsR stR C hR hk hl hP hL hst
  obtain ⟨v, rest, rfl, ⟨i, rfl, hi⟩, hs1⟩ := hst.c
  exact lv_tableOut C.1 C.2.1 hd (by rw [hi]; exact h) ht (k p l e R s m args below meth c H locs cells slots mc ms lsR _ C hR hk hl hP hL hs1)
theorem E_lookup {x : Int} {dflt : Int} {ps : Array (Int × Int)} {len : Nat} {off : Int} {tgt : Nat} (hd : decode mt.2.1 pc = .ok (.lookupswitch dflt ps, len)) (hp : (ps.toList.zip (ps.toList.drop 1)).all (fun (a, next) => a.1 < next.1) = true) (ho : Op.lookupswitch.offset ps.toList dflt x = off) (ht : (pc : Int) + off = (tgt : Int)) (k : EV G mt d kc ks Q tgt ls st M) : EV G mt d kc ks Q pc ls (vI x :: st) M := by
  intro p l e R s m args below meth c H locs cells slots mc ms lsR stR C hR hk hl hP hL hst
  obtain ⟨v, rest, rfl, ⟨i, rfl, hi⟩, hs1⟩ := hst.c
  exact lv_lookup C.1 C.2.1 hd hp (by rw [hi]; exact ho) ht (k p l e R s m args below meth c H locs cells slots mc ms lsR _ C hR hk hl hP hL hs1)
def c1 : MV → Bool
  | .inr (.inr _) => false
  | _ => true
theorem vr_c1 {s : State} (h : KX G s) {x : MV} {v : Value} (hv : VR G x v) (hc : c1 x = true) : v.category = 1 := by
  rcases lv_cat v with q | q
  · exact q
  · obtain ⟨y, rfl⟩ := vr_cat h hv q
    cases hc
theorem E_dup {x : MV} (hd : decode mt.2.1 pc = .ok (.dup, 1)) (hc : c1 x = true := by rfl) (k : EV G mt d kc ks Q (pc + 1) ls (x :: x :: st) M) : EV G mt d kc ks Q pc ls (x :: st) M := by
  intro p l e R s m args below meth c H locs cells slots mc ms lsR stR C hR hk hl hP hL hst
  obtain ⟨v, rest, rfl, hv, hs1⟩ := hst.c
  exact lv_dup C.1 C.2.1 hd (vr_c1 C.2.2.2.2.2.2.2.2 hv hc) (k p l e R s m args below meth c H locs cells slots mc ms lsR _ C hR hk hl hP hL ⟨hv, hv, hs1⟩)
theorem E_pop {x : MV} (hd : decode mt.2.1 pc = .ok (.pop, 1)) (hc : c1 x = true := by rfl) (k : EV G mt d kc ks Q (pc + 1) ls st M) : EV G mt d kc ks Q pc ls (x :: st) M := by
  intro p l e R s m args below meth c H locs cells slots mc ms lsR stR C hR hk hl hP hL hst
  obtain ⟨v, rest, rfl, hv, hs1⟩ := hst.c
  exact lv_pop C.1 C.2.1 hd (vr_c1 C.2.2.2.2.2.2.2.2 hv hc) (k p l e R s m args below meth c H locs cells slots mc ms lsR _ C hR hk hl hP hL hs1)
theorem E_dup2 {x y : MV} (hd : decode mt.2.1 pc = .ok (.dup2, 1)) (hc : c1 x = true := by rfl) (hc2 : c1 y = true := by rfl) (k : EV G mt d kc ks Q (pc + 1) ls (x :: y :: x :: y :: st) M) : EV G mt d kc ks Q pc ls (x :: y :: st) M := by
  intro p l e R s m args below meth c H locs cells slots mc ms lsR stR C hR hk hl hP hL hst
  obtain ⟨v, rest, rfl, hv, hs1⟩ := hst.c
  obtain ⟨w, rest, rfl, hw, hs2⟩ := hs1.c
  exact lv_dup2_11 C.1 C.2.1 hd (vr_c1 C.2.2.2.2.2.2.2.2 hv hc) (vr_c1 C.2.2.2.2.2.2.2.2 hw hc2) (k p l e R s m args below meth c H locs cells slots mc ms lsR _ C hR hk hl hP hL ⟨hv, hw, hv, hw, hs2⟩)
theorem E_dup_x1 {x y : MV} (hd : decode mt.2.1 pc = .ok (.dup_x1, 1)) (hc : c1 x = true := by rfl) (hc2 : c1 y = true := by rfl) (k : EV G mt d kc ks Q (pc + 1) ls (x :: y :: x :: st) M) : EV G mt d kc ks Q pc ls (x :: y :: st) M := by
  intro p l e R s m args below meth c H locs cells slots mc ms lsR stR C hR hk hl hP hL hst
  obtain ⟨v, rest, rfl, hv, hs1⟩ := hst.c
  obtain ⟨w, rest, rfl, hw, hs2⟩ := hs1.c
  exact lv_dup_x1 C.1 C.2.1 hd (vr_c1 C.2.2.2.2.2.2.2.2 hv hc) (vr_c1 C.2.2.2.2.2.2.2.2 hw hc2) (k p l e R s m args below meth c H locs cells slots mc ms lsR _ C hR hk hl hP hL ⟨hv, hw, hv, hs2⟩)
theorem E_iret {x : Int} (hd : decode mt.2.1 pc = .ok (.ireturn, 1)) (hr : mt.2.2.2 = some .int) (hq : Q (some (vI x)) M) : EV G mt d kc ks Q pc ls [vI x] M := by
  intro p l e R s m args below meth c H locs cells slots mc ms lsR stR C hR hk hl hP hL hst
  obtain ⟨v, rest, rfl, hv, hs1⟩ := hst.c
  cases hs1.n
  have hv0 := hv
  obtain ⟨i, rfl, hi⟩ := hv
  refine W.widen (k := mc) (n := ms) (by omega) (by omega) ?_
  exact W.iret (v := i) C.1 C.2.1 (C.2.2.2.2.2.1.trans hr) (fun t ht _ => ⟨some (vI x), _, M, rfl, ⟨i, rfl, hi⟩, hq, by rw [ht]; exact hP⟩) hl hd C.2.2.2.2.2.2.1
theorem E_lret {x : Int} (hd : decode mt.2.1 pc = .ok (.lreturn, 1)) (hr : mt.2.2.2 = some .long) (hq : Q (some (vL x)) M) : EV G mt d kc ks Q pc ls [vL x] M := by
  intro p l e R s m args below meth c H locs cells slots mc ms lsR stR C hR hk hl hP hL hst
  obtain ⟨v, rest, rfl, hv, hs1⟩ := hst.c
  cases hs1.n
  have hv0 := hv
  obtain ⟨i, rfl, hi⟩ := hv
  refine W.widen (k := mc) (n := ms) (by omega) (by omega) ?_
  exact W.lret (v := i) C.1 C.2.1 (C.2.2.2.2.2.1.trans hr) (fun t ht _ => ⟨some (vL x), _, M, rfl, ⟨i, rfl, hi⟩, hq, by rw [ht]; exact hP⟩) hl hd C.2.2.2.2.2.2.1
theorem E_zret {x : Int} {ty : FieldType} (hd : decode mt.2.1 pc = .ok (.ireturn, 1)) (hr : mt.2.2.2 = some ty) (hn : narrow ty (.int (Int32.ofInt x)) = .int (Int32.ofInt x)) (hq : Q (some (vI x)) M) : EV G mt d kc ks Q pc ls [vI x] M := by
  intro p l e R s m args below meth c H locs cells slots mc ms lsR stR C hR hk hl hP hL hst
  obtain ⟨v, rest, rfl, hv, hs1⟩ := hst.c
  cases hs1.n
  have hv0 := hv
  obtain ⟨i, rfl, hi⟩ := hv
  refine W.widen (k := mc) (n := ms) (by omega) (by omega) ?_
  exact W.zret (v := i) C.1 C.2.1 (C.2.2.2.2.2.1.trans hr) (by rw [← i32_of i, hi]; exact hn) (fun t ht _ => ⟨some (vI x), _, M, rfl, ⟨i, rfl, hi⟩, hq, by rw [ht]; exact hP⟩) hl hd C.2.2.2.2.2.2.1
theorem E_aret {a : Nat} {ty : FieldType} (hd : decode mt.2.1 pc = .ok (.areturn, 1)) (hr : mt.2.2.2 = some ty) (hty : (∃ n, ty = .object n) ∨ ∃ t, ty = .array t) (hq : Q (some (vR a)) M) : EV G mt d kc ks Q pc ls [vR a] M := by
  intro p l e R s m args below meth c H locs cells slots mc ms lsR stR C hR hk hl hP hL hst
  obtain ⟨v, rest, rfl, hv, hs1⟩ := hst.c
  cases hs1.n
  have hv0 := hv
  have hv : v = rfv G a := hv
  refine W.widen (k := mc) (n := ms) (by omega) (by omega) ?_
  exact W.aret (v := v) C.1 C.2.1 (C.2.2.2.2.2.1.trans hr) hty (by rw [hv]; exact rfv_or C.2.2.2.2.2.2.2.2 a) (fun t ht _ => ⟨some (vR a), _, M, rfl, hv0, hq, by rw [ht]; exact hP⟩) hl hd C.2.2.2.2.2.2.1
theorem E_vret  (hd : decode mt.2.1 pc = .ok (.return_, 1)) (hr : mt.2.2.2 = none) (hq : Q none M) : EV G mt d kc ks Q pc ls [] M := by
  intro p l e R s m args below meth c H locs cells slots mc ms lsR stR C hR hk hl hP hL hst
  cases hst.n
  refine W.widen (k := mc) (n := ms) (by omega) (by omega) ?_
  exact W.vret C.1 C.2.1 (C.2.2.2.2.2.1.trans hr) (fun t ht _ => ⟨none, _, M, rfl, trivial, hq, by rw [ht]; exact hP⟩) hl hd C.2.2.2.2.2.2.1
end EVA
end
section
/-! ===== 05: rows of EV for fields, arrays, new objects ===== -/
theorem am_inj {G : Ctx} {a b : Nat} (ha : 21 ≤ a) (hb : 21 ≤ b) (h : am G a = am G b) : a = b := by
  rw [am_hi ha, am_hi hb] at h
  omega
theorem CellR.keep {G : Ctx} {M M' : Mem} {a : Nat} {H H' : Heap} (hI : ∀ j, mI M' a j = mI M a j) (hR : ∀ j, mR M' a j = mR M a j) (hS : mS M' a = mS M a) (hH : H'[am G a]? = H[am G a]?) (h : CellR G M a H) : CellR G M' a H' := by
  have hAR : ∀ (cA : ClassId) (n : Nat), AR M a cA n H[am G a]? → AR M' a cA n H'[am G a]? := by
    intro cA n q
    obtain ⟨q1, f, q2, q3⟩ := q
    exact ⟨q1, f, by rw [hH]; exact q2, fun j hj => by rw [hI]; exact q3 j hj⟩
  unfold CellR at h ⊢
  rw [hS]
  generalize mS M a = z at h ⊢
  split at h
  · exact hAR _ _ h
  · exact hAR _ _ h
  · exact hAR _ _ h
  · obtain ⟨r, V, h1, h2, h3⟩ := h
    refine ⟨r, V, h1, h2.kept hH, fun k hk => ?_⟩
    have q := h3 k hk
    unfold FV at q ⊢
    rw [hI, hR]
    exact q
  · trivial
theorem RepM.write {G : Ctx} {M M' : Mem} {H H' : Heap} (hP : RepM G M H) {a : Nat} (ha : 21 ≤ a) (hN : mN M' = mN M) (hS : mS M' = mS M) (hI : ∀ b j, b ≠ a → mI M' b j = mI M b j) (hR : ∀ b j, b ≠ a → mR M' b j = mR M b j) (hz : H'.size = H.size) (hq : ∀ q, q ≠ am G a → H'[q]? = H[q]?) (hc : CellR G M' a H') : RepM G M' H' := by
  obtain ⟨h1, h2, h3, h4, h5, h6, h7⟩ := hP
  refine ⟨by rw [hN]; exact h1, by rw [hz, hN]; exact h2, fun q hq' => ?_, fun b hb1 hb2 => ?_, by rw [hS]; exact h5, fun j => ?_, fun i hi => ?_⟩
  · rw [hq q ?_]
    · exact h3 q hq'
    · rw [am_hi ha]; omega
  · rw [hS] at hb1 hb2
    obtain ⟨q1, q2, q3⟩ := h4 b hb1 hb2
    refine ⟨q1, by rw [hN]; exact q2, ?_⟩
    by_cases hba : b = a
    · rw [hba]; exact hc
    · exact q3.keep (fun j => hI b j hba) (fun j => hR b j hba) (by rw [hS]) (hq _ (fun e => hba (am_inj q1 ha e)))
  · rw [hI 1 _ (by omega)]; exact h6 j
  · obtain ⟨q1, q2, q3⟩ := h7 i hi
    exact ⟨by rw [hS]; exact q1, by rw [hS]; exact q2, fun j => by rw [hI _ _ (by omega)]; exact q3 j⟩
theorem RepM.push {G : Ctx} {M : Mem} {H H' : Heap} (hP : RepM G M H) (sh : Nat × Nat) (hz : H'.size = H.size + 1) (hq : ∀ q, q < H.size → H'[q]? = H[q]?) (hc : CellR G (mNew M sh) (mN M) H') : RepM G (mNew M sh) H' ∧ am G (mN M) = H.size := by
  obtain ⟨h1, h2, h3, h4, h5, h6, h7⟩ := hP
  have hsz : am G (mN M) = H.size := by rw [am_hi h1, h2]
  have hS : ∀ b, b ≠ mN M → mS (mNew M sh) b = mS M b := fun b hb => by show (if b = M.1.1 then sh else M.1.2 b) = _; rw [if_neg (show ¬ b = M.1.1 from hb)]; rfl
  have hI : ∀ b, b ≠ mN M → mI (mNew M sh) b = mI M b := fun b hb => by show (if b = M.1.1 then _ else M.2.1 b) = _; rw [if_neg (show ¬ b = M.1.1 from hb)]; rfl
  have hR : ∀ b, b ≠ mN M → mR (mNew M sh) b = mR M b := fun b hb => by show (if b = M.1.1 then _ else M.2.2 b) = _; rw [if_neg (show ¬ b = M.1.1 from hb)]; rfl
  have hN : mN (mNew M sh) = mN M + 1 := rfl
  refine ⟨⟨by rw [hN]; omega, by rw [hz, hN, h2]; omega, fun q hq' => ?_, fun b hb1 hb2 => ?_, by rw [hS 1 (by omega)]; exact h5, fun j => by rw [hI 1 (by omega)]; exact h6 j, fun i hi => ?_⟩, hsz⟩
  · rw [hq q (by omega)]
    exact h3 q hq'
  · by_cases hb : b = mN M
    · subst hb
      exact ⟨h1, by rw [hN]; omega, hc⟩
    · rw [hS b hb] at hb1 hb2
      obtain ⟨q1, q2, q3⟩ := h4 b hb1 hb2
      refine ⟨q1, by rw [hN]; omega, q3.keep (fun j => by rw [hI b hb]) (fun j => by rw [hR b hb]) (hS b hb) (hq _ ?_)⟩
      rw [am_hi q1, h2]; omega
  · obtain ⟨q1, q2, q3⟩ := h7 i hi
    have e1 : 2 + i ≠ mN M := by omega
    have e2 : 11 + i ≠ mN M := by omega
    exact ⟨by rw [hS _ e1]; exact q1, by rw [hS _ e2]; exact q2, fun j => by rw [hI _ e2]; exact q3 j⟩
theorem RepM.obj {G : Ctx} {M : Mem} {H : Heap} (hP : RepM G M H) {a c : Nat} (hs : mS M a = (4, c)) : 21 ≤ a ∧ ∃ (r : vw_C) (V : Nat → Value), cls_[c]? = some r ∧ t_OB (am G a) ((gD G).1 c) r.2.2 ((gD G).2 c) H V ∧ ∀ k, k < r.2.2 → FV G M a c k (V k) := by
  obtain ⟨q1, q2, q3⟩ := hP.2.2.2.1 a (by rw [hs]; simp) (by rw [hs]; simp)
  unfold CellR at q3
  rw [hs] at q3
  exact ⟨q1, q3⟩
theorem RepM.arr {G : Ctx} {M : Mem} {H : Heap} (hP : RepM G M H) {a n : Nat} (hs : mS M a = (1, n)) : 21 ≤ a ∧ AR M a (gI G) n H[am G a]? := by
  obtain ⟨q1, q2, q3⟩ := hP.2.2.2.1 a (by rw [hs]; simp) (by rw [hs]; simp)
  unfold CellR at q3
  rw [hs] at q3
  exact ⟨q1, q3⟩
theorem RepM.arrB {G : Ctx} {M : Mem} {H : Heap} (hP : RepM G M H) {a n : Nat} (hs : mS M a = (2, n)) : 21 ≤ a ∧ AR M a (gB G) n H[am G a]? := by
  obtain ⟨q1, q2, q3⟩ := hP.2.2.2.1 a (by rw [hs]; simp) (by rw [hs]; simp)
  unfold CellR at q3
  rw [hs] at q3
  exact ⟨q1, q3⟩
theorem RepM.arrZ {G : Ctx} {M : Mem} {H : Heap} (hP : RepM G M H) {a n : Nat} (hs : mS M a = (3, n)) : 21 ≤ a ∧ AR M a (gZ G) n H[am G a]? := by
  obtain ⟨q1, q2, q3⟩ := hP.2.2.2.1 a (by rw [hs]; simp) (by rw [hs]; simp)
  unfold CellR at q3
  rw [hs] at q3
  exact ⟨q1, q3⟩
theorem i32_clamp {i : Int32} {x : Int} (h : i.toInt = x) : (i.toNatClampNeg : Nat) = x.toNat := by
  subst h; rfl
theorem i32_in {i : Int32} {x : Int} {n : Nat} (h : i.toInt = x) (h0 : 0 ≤ x) (h1 : x < n) : ¬ (i < 0 ∨ n ≤ i.toNatClampNeg) := by
  rw [Int32.lt_iff_toInt_lt, i32_clamp h, h]
  have z : (0 : Int32).toInt = 0 := rfl
  rw [z]
  omega
section EVB
variable {G : Ctx} {mt : MT} {d kc ks : Nat} {Q : Option MV → Mem → Prop} {pc : Nat} {ls : List (Option MV)} {st : List MV} {M : Mem}
theorem E_getI {a ci k idx : Nat} {C ref : String} {T : u_T} {N : Nat} {kz x : Int} (hd : decode mt.2.1 pc = .ok (.getfield idx, 3)) (hc : cls_[ci]? = some (C, T, N)) (hk : k < N) (hin : ∀ w ∈ u_ws C T N, w ∈ AW) (hw : Cond.fieldLink mt.1.cls idx ref (T k).2.1 (T k).2.2.1 ∈ AW)
    (hsame : ∀ (args : Array Value) (s : State), (∀ w ∈ AW, w.before args s = true) → ∀ x, s.fieldFound? (T k).1 (T k).2.1 (T k).2.2.1 = some x → s.fieldFound? ref (T k).2.1 (T k).2.2.1 = some x) (hf : fk ci k = false) (hz : (k : Int) = kz) (hs : mS M a = (4, ci)) (hx : mI M a kz = x)
    (kk : EV G mt d kc ks Q (pc + 3) ls (vI x :: st) M) : EV G mt d kc ks Q pc ls (vR a :: st) M := by
  intro p l e R s m args below meth c H locs cells slots mc ms lsR stR C0 hR hkk hl hP hL hst
  obtain ⟨v, rest, rfl, hv, hs1⟩ := hst.c
  have hv : v = rfv G a := hv
  obtain ⟨ha, r, V, h1, h2, h3⟩ := hP.obj hs
  rw [rfv_hi ha] at hv
  subst hv
  have hr : r = (C, T, N) := Option.some.inj (h1.symm.trans hc)
  subst hr
  have hK := C0.2.2.2.2.2.2.2.2.1
  have hts := C0.2.2.2.2.1
  obtain ⟨cell, q1, q2, q3, q4⟩ := h2
  obtain ⟨hS, hfc, kC, hkC, hkind⟩ := hK.1 ci _ hc
  obtain ⟨cf, kf, fi, f, hi, hsl⟩ := hS k hk
  have hV := h3 k hk
  unfold FV at hV
  rw [if_neg (by rw [hf]; decide)] at hV
  obtain ⟨i, e1, e2⟩ := hV
  refine W.getf C0.1 C0.2.1 C0.2.2.2.1 (hts _ hw) (hsame args s hts _ hi) (u_facts hfc hkC (u_lays hts hin hk) hi).1 q1 (by rw [q3]; exact fun h => by cases h) (v := .int i) ?_ rfl rfl hd (kk p l e R s m args below meth c H locs cells slots mc ms lsR _ C0 hR hkk hl hP hL ⟨⟨_, rfl, by rw [e2, hz, hx]⟩, hs1⟩)
  rw [hsl, q4 k hk, e1]
theorem E_getR {a ci k idx r0 : Nat} {C ref : String} {T : u_T} {N : Nat} (hd : decode mt.2.1 pc = .ok (.getfield idx, 3)) (hc : cls_[ci]? = some (C, T, N)) (hk : k < N) (hin : ∀ w ∈ u_ws C T N, w ∈ AW) (hw : Cond.fieldLink mt.1.cls idx ref (T k).2.1 (T k).2.2.1 ∈ AW)
    (hsame : ∀ (args : Array Value) (s : State), (∀ w ∈ AW, w.before args s = true) → ∀ x, s.fieldFound? (T k).1 (T k).2.1 (T k).2.2.1 = some x → s.fieldFound? ref (T k).2.1 (T k).2.2.1 = some x) (hf : fk ci k = true) (hs : mS M a = (4, ci)) (hx : mR M a k = r0)
    (kk : EV G mt d kc ks Q (pc + 3) ls (vR r0 :: st) M) : EV G mt d kc ks Q pc ls (vR a :: st) M := by
  intro p l e R s m args below meth c H locs cells slots mc ms lsR stR C0 hR hkk hl hP hL hst
  obtain ⟨v, rest, rfl, hv, hs1⟩ := hst.c
  have hv : v = rfv G a := hv
  obtain ⟨ha, r, V, h1, h2, h3⟩ := hP.obj hs
  rw [rfv_hi ha] at hv
  subst hv
  have hr : r = (C, T, N) := Option.some.inj (h1.symm.trans hc)
  subst hr
  have hK := C0.2.2.2.2.2.2.2.2.1
  have hts := C0.2.2.2.2.1
  obtain ⟨cell, q1, q2, q3, q4⟩ := h2
  obtain ⟨hS, hfc, kC, hkC, hkind⟩ := hK.1 ci _ hc
  obtain ⟨cf, kf, fi, f, hi, hsl⟩ := hS k hk
  have hV := h3 k hk
  unfold FV at hV
  rw [if_pos hf, hx] at hV
  refine W.getf C0.1 C0.2.1 C0.2.2.2.1 (hts _ hw) (hsame args s hts _ hi) (u_facts hfc hkC (u_lays hts hin hk) hi).1 q1 (by rw [q3]; exact fun h => by cases h) (v := V k) ?_ rfl rfl hd (kk p l e R s m args below meth c H locs cells slots mc ms lsR _ C0 hR hkk hl hP hL ⟨hV, hs1⟩)
  rw [hsl, q4 k hk]
/-- a store into a field: the heap behind it -/
theorem RepM.putf {s : State} {args : Array Value} {H H' : Heap} (hP : RepM G M H) {M' : Mem} {a ci k : Nat} {C : String} {T : u_T} {N : Nat} {V : Nat → Value} {cell : Cell} {w : Value} (hts : ∀ w ∈ AW, w.before args s = true) (hK : va_K (gD G) cls_ [] s) (hc : cls_[ci]? = some (C, T, N)) (hk : k < N) (hin : ∀ w ∈ u_ws C T N, w ∈ AW)
    (hty : ∀ k, k < N → parseFieldDescriptor (T k).2.2.1 = some (tyC ci k)) (hnm : ∀ a, a < N → ∀ b, b < N → a ≠ b → (T a).2.1 ≠ (T b).2.1) (hs : mS M a = (4, ci)) (ha : 21 ≤ a)
    (q2 : cell.cls = (gD G).1 ci) (q3 : cell.vm = .none) (q4 : ∀ k, k < N → cell.slots[(gD G).2 ci k]? = some (V k)) (h3 : ∀ k, k < N → FV G M a ci k (V k))
    (e1 : H'[am G a]? = some (cell.setSlot ((gD G).2 ci k) w)) (e2 : H'.size = H.size) (e3 : ∀ q, q ≠ am G a → H'[q]? = H[q]?)
    (hN : mN M' = mN M) (hS : mS M' = mS M) (hI : ∀ b (j : Int), ¬ (b = a ∧ j = (k : Int)) → mI M' b j = mI M b j) (hR : ∀ b j, ¬ (b = a ∧ j = k) → mR M' b j = mR M b j) (hw : FV G M' a ci k w) : RepM G M' H' := by
  have hap := va_apart (own := C) hts hin (tyC ci) hty hnm hK hc
  refine hP.write ha hN hS (fun b j hb => hI b j (fun h => hb h.1)) (fun b j hb => hR b j (fun h => hb h.1)) e2 e3 ?_
  unfold CellR
  rw [hS, hs]
  refine ⟨_, updV V k w, hc, ⟨_, e1, q2, q3, t_set q4 hap hk w⟩, fun j hj => ?_⟩
  by_cases hjk : j = k
  · subst hjk
    simp only [updV, if_true]
    exact hw
  · have e : updV V k w j = V j := by simp [updV, hjk]
    rw [e]
    have q := h3 j hj
    unfold FV at q ⊢
    rw [hI a (j : Int) (fun h => hjk (by have := h.2; omega)), hR a j (fun h => hjk h.2)]
    exact q
theorem E_putI {a ci k idx : Nat} {C ref : String} {T : u_T} {N : Nat} {kz x : Int} {ty : FieldType} (hd : decode mt.2.1 pc = .ok (.putfield idx, 3)) (hc : cls_[ci]? = some (C, T, N)) (hk : k < N) (hin : ∀ w ∈ u_ws C T N, w ∈ AW) (hty : ∀ k, k < N → parseFieldDescriptor (T k).2.2.1 = some (tyC ci k)) (hnm : ∀ a, a < N → ∀ b, b < N → a ≠ b → (T a).2.1 ≠ (T b).2.1)
    (hw : Cond.fieldLink mt.1.cls idx ref (T k).2.1 (T k).2.2.1 ∈ AW) (hsame : ∀ x : ClassId × Class × Nat × Field, ∀ s : State, s.fieldFound? (T k).1 (T k).2.1 (T k).2.2.1 = some x → s.fieldFound? ref (T k).2.1 (T k).2.2.1 = some x)
    (hfin : (T k).2.2.2 = false ∨ ((T k).2.2.2 = true ∧ mt.1.name = "<init>" ∧ (T k).1 = mt.1.cls)) (hf : fk ci k = false) (hz : (k : Int) = kz) (htk : tyC ci k = ty) (hn : narrow ty (.int (Int32.ofInt x)) = .int (Int32.ofInt x) ∧ fits ty (.int (Int32.ofInt x)) = true) (hs : mS M a = (4, ci))
    (kk : EV G mt d kc ks Q (pc + 3) ls st (mWI M a kz x)) : EV G mt d kc ks Q pc ls (vI x :: vR a :: st) M := by
  intro p l e R s m args below meth c H locs cells slots mc ms lsR stR C0 hR hkk hl hP hL hst
  obtain ⟨v, rest, rfl, ⟨i, rfl, hi⟩, hs1⟩ := hst.c
  obtain ⟨v, rest, rfl, hv, hs2⟩ := hs1.c
  have hv : v = rfv G a := hv
  obtain ⟨ha, r, V, h1, h2, h3⟩ := hP.obj hs
  rw [rfv_hi ha] at hv
  subst hv
  have hr : r = (C, T, N) := Option.some.inj (h1.symm.trans hc)
  subst hr
  have hK := C0.2.2.2.2.2.2.2.2.1
  have hts := C0.2.2.2.2.1
  obtain ⟨cell, q1, q2, q3, q4⟩ := h2
  obtain ⟨hS, hfc, kC, hkC, hkind⟩ := hK.1 ci _ hc
  obtain ⟨cf, kf, fi, f, hfi, hsl⟩ := hS k hk
  have hst0 := (u_facts hfc hkC (u_lays hts hin hk) hfi).1
  have hd' : parseFieldDescriptor (T k).2.2.1 = some ty := by rw [← htk]; exact hty k hk
  have hii : i = Int32.ofInt x := by rw [← hi, i32_of]
  subst hz
  have goal : ∀ H' : Heap, H'[am G a]? = some (cell.setSlot f.slot (.int i)) → H'.size = H.size → (∀ q, q ≠ am G a → H'[q]? = H[q]?) → W p l e R s m args below meth c H' (locs ++ [⟨am G a, f.slot⟩]) cells slots (MQ below (QX G Q) args s mc ms (fun q => gb G ≤ q)) (F0 m (pc + 3) lsR rest) := by
    intro H' e1 e2 e3
    rw [hsl] at e1
    refine kk p l e R s m args below meth c H' _ cells slots mc ms lsR _ C0 hR hkk ?_ ?_ hL hs2
    · intro q hq
      rcases List.mem_append.mp hq with h | h
      · exact hl q h
      · rw [List.mem_singleton.mp h]
        show gb G ≤ am G a
        rw [am_hi ha]; omega
    · refine hP.putf hts hK hc hk hin hty hnm hs ha q2 q3 q4 h3 e1 e2 e3 rfl rfl (fun b j h => up2_ne _ _ h) (fun b j h => rfl) ?_
      unfold FV
      rw [if_neg (by rw [hf]; decide)]
      exact ⟨i, rfl, by rw [hi]; exact (up2_self _ _ _ _).symm⟩
  rcases hfin with hfin | ⟨hfin, hnm2, hdecl⟩
  · have hlay := hts _ (hin _ (u_in_lay hk))
    unfold u_lay at hlay
    rw [if_neg (by rw [hfin]; decide)] at hlay
    have h6 := u_store (v := .int i) hfc hkC hkind hlay hfi hd' (by rw [hii]; exact hn.1) (by rw [hii]; exact hn.2)
    exact W.putK C0.1 C0.2.1 (f := f) ⟨C0.2.2.2.1, hts _ hw, ⟨_, _, _, hsame _ s hfi⟩, hst0⟩ (by rw [q2]; exact h6) q1 q3 (by rw [hsl]; exact k2_hasslot (q4 k hk)) rfl rfl hd goal
  · have hlay := hts _ (hin _ (u_in_lay hk))
    unfold u_lay at hlay
    rw [if_pos hfin] at hlay
    have hcf : m.cls = cf := by
      obtain ⟨_, _, c', _, _, _, -, -, hf', -, -, -, hown2, -⟩ := Cond.laysFinal_spec hlay
      have e1 : c' = cf := by have := hfi.symm.trans hf'; simp at this; exact this.1.symm
      rw [hdecl] at hown2
      rw [← e1]; exact Option.some.inj (C0.2.2.2.1.symm.trans hown2)
    have h6 := u_fits (v := .int i) hfc hkC hkind (Or.inr hlay) hfi hd' (by rw [hii]; exact hn.1) (by rw [hii]; exact hn.2)
    exact W.putFinK C0.1 C0.2.1 C0.2.2.2.1 (hts _ hw) (hsame _ s hfi) hst0 hcf (C0.2.2.2.2.2.2.2.1.trans hnm2) (by rw [q2]; exact h6) q1 q3 (by rw [hsl]; exact k2_hasslot (q4 k hk)) rfl rfl hd goal
theorem E_putR {a ci k idx r0 : Nat} {C ref : String} {T : u_T} {N : Nat} {ty : FieldType} (hd : decode mt.2.1 pc = .ok (.putfield idx, 3)) (hc : cls_[ci]? = some (C, T, N)) (hk : k < N) (hin : ∀ w ∈ u_ws C T N, w ∈ AW) (hty : ∀ k, k < N → parseFieldDescriptor (T k).2.2.1 = some (tyC ci k)) (hnm : ∀ a, a < N → ∀ b, b < N → a ≠ b → (T a).2.1 ≠ (T b).2.1)
    (hw : Cond.fieldLink mt.1.cls idx ref (T k).2.1 (T k).2.2.1 ∈ AW) (hsame : ∀ x : ClassId × Class × Nat × Field, ∀ s : State, s.fieldFound? (T k).1 (T k).2.1 (T k).2.2.1 = some x → s.fieldFound? ref (T k).2.1 (T k).2.2.1 = some x)
    (hfin : (T k).2.2.2 = false ∨ ((T k).2.2.2 = true ∧ mt.1.name = "<init>" ∧ (T k).1 = mt.1.cls)) (hf : fk ci k = true) (htk : tyC ci k = ty) (hn : ∀ x : Nat, narrow ty (.ref x) = .ref x ∧ fits ty (.ref x) = true) (hs : mS M a = (4, ci)) (hr0 : 21 ≤ r0)
    (kk : EV G mt d kc ks Q (pc + 3) ls st (mWR M a k r0)) : EV G mt d kc ks Q pc ls (vR r0 :: vR a :: st) M := by
  intro p l e R s m args below meth c H locs cells slots mc ms lsR stR C0 hR hkk hl hP hL hst
  obtain ⟨w, rest, rfl, hi, hs1⟩ := hst.c
  obtain ⟨v, rest, rfl, hv, hs2⟩ := hs1.c
  have hv : v = rfv G a := hv
  have hi : w = rfv G r0 := hi
  rw [rfv_hi hr0] at hi
  subst hi
  obtain ⟨ha, r, V, h1, h2, h3⟩ := hP.obj hs
  rw [rfv_hi ha] at hv
  subst hv
  have hr : r = (C, T, N) := Option.some.inj (h1.symm.trans hc)
  subst hr
  have hK := C0.2.2.2.2.2.2.2.2.1
  have hts := C0.2.2.2.2.1
  obtain ⟨cell, q1, q2, q3, q4⟩ := h2
  obtain ⟨hS, hfc, kC, hkC, hkind⟩ := hK.1 ci _ hc
  obtain ⟨cf, kf, fi, f, hfi, hsl⟩ := hS k hk
  have hst0 := (u_facts hfc hkC (u_lays hts hin hk) hfi).1
  have hd' : parseFieldDescriptor (T k).2.2.1 = some ty := by rw [← htk]; exact hty k hk
  have goal : ∀ H' : Heap, H'[am G a]? = some (cell.setSlot f.slot (.ref (am G r0))) → H'.size = H.size → (∀ q, q ≠ am G a → H'[q]? = H[q]?) → W p l e R s m args below meth c H' (locs ++ [⟨am G a, f.slot⟩]) cells slots (MQ below (QX G Q) args s mc ms (fun q => gb G ≤ q)) (F0 m (pc + 3) lsR rest) := by
    intro H' e1 e2 e3
    rw [hsl] at e1
    refine kk p l e R s m args below meth c H' _ cells slots mc ms lsR _ C0 hR hkk ?_ ?_ hL hs2
    · intro q hq
      rcases List.mem_append.mp hq with h | h
      · exact hl q h
      · rw [List.mem_singleton.mp h]
        show gb G ≤ am G a
        rw [am_hi ha]; omega
    · refine hP.putf hts hK hc hk hin hty hnm hs ha q2 q3 q4 h3 e1 e2 e3 rfl rfl (fun b j h => rfl) (fun b j h => up2_ne _ _ h) ?_
      unfold FV
      rw [if_pos hf]
      rw [show mR (mWR M a k r0) a k = r0 from up2_self _ _ _ _, rfv_hi hr0]
  rcases hfin with hfin | ⟨hfin, hnm2, hdecl⟩
  · have hlay := hts _ (hin _ (u_in_lay hk))
    unfold u_lay at hlay
    rw [if_neg (by rw [hfin]; decide)] at hlay
    have h6 := u_store (v := .ref (am G r0)) hfc hkC hkind hlay hfi hd' (hn _).1 (hn _).2
    exact W.putK C0.1 C0.2.1 (f := f) ⟨C0.2.2.2.1, hts _ hw, ⟨_, _, _, hsame _ s hfi⟩, hst0⟩ (by rw [q2]; exact h6) q1 q3 (by rw [hsl]; exact k2_hasslot (q4 k hk)) rfl rfl hd goal
  · have hlay := hts _ (hin _ (u_in_lay hk))
    unfold u_lay at hlay
    rw [if_pos hfin] at hlay
    have hcf : m.cls = cf := by
      obtain ⟨_, _, c', _, _, _, -, -, hf', -, -, -, hown2, -⟩ := Cond.laysFinal_spec hlay
      have e1 : c' = cf := by have := hfi.symm.trans hf'; simp at this; exact this.1.symm
      rw [hdecl] at hown2
      rw [← e1]; exact Option.some.inj (C0.2.2.2.1.symm.trans hown2)
    have h6 := u_fits (v := .ref (am G r0)) hfc hkC hkind (Or.inr hlay) hfi hd' (hn _).1 (hn _).2
    exact W.putFinK C0.1 C0.2.1 C0.2.2.2.1 (hts _ hw) (hsame _ s hfi) hst0 hcf (C0.2.2.2.2.2.2.2.1.trans hnm2) (by rw [q2]; exact h6) q1 q3 (by rw [hsl]; exact k2_hasslot (q4 k hk)) rfl rfl hd goal
end EVB
end
section
section EVB
variable {G : Ctx} {mt : MT} {d kc ks : Nat} {Q : Option MV → Mem → Prop} {pc : Nat} {ls : List (Option MV)} {st : List MV} {M : Mem}
theorem E_iald {a n : Nat} {i x : Int} (hd : decode mt.2.1 pc = .ok (.iaload, 1)) (hs : mS M a = (1, n)) (h0 : 0 ≤ i) (h1 : i < n) (hx : mI M a i = x) (kk : EV G mt d kc ks Q (pc + 1) ls (vI x :: st) M) : EV G mt d kc ks Q pc ls (vI i :: vR a :: st) M := by
  intro p l e R s m args below meth c H locs cells slots mc ms lsR stR C0 hR hkk hl hP hL hst
  obtain ⟨v, rest, rfl, ⟨j, rfl, hj⟩, hs1⟩ := hst.c
  obtain ⟨v, rest, rfl, hv, hs2⟩ := hs1.c
  have hv : v = rfv G a := hv
  obtain ⟨ha, hn, f, h2, h3⟩ := hP.arr hs
  rw [rfv_hi ha] at hv
  subst hv
  have hin := i32_in hj h0 h1
  have hlt : j.toNatClampNeg < n := Nat.not_le.mp fun q => hin (Or.inr q)
  have hval : (f j.toNatClampNeg).toInt = x := by
    rw [h3 _ hlt, i32_clamp hj, ← hx, Int.toNat_of_nonneg h0]
  exact W.iald (v := .int (f j.toNatClampNeg)) C0.1 C0.2.1 h2 (C0.2.2.2.2.2.2.2.2.2.1.1 n (fun j => .int (f j))) (fun q => by cases q) (by show ¬ (j < 0 ∨ (arrV _ _ _).slots.size ≤ _); rw [arrV_size]; exact hin) (by show (arrV _ _ _).slots[_]? = _; rw [arrV_read _ _ hlt]) rfl rfl hd (kk p l e R s m args below meth c H locs cells slots mc ms lsR _ C0 hR hkk hl hP hL ⟨⟨_, rfl, hval⟩, hs2⟩)
theorem E_bald {a n : Nat} {i x : Int} (hd : decode mt.2.1 pc = .ok (.baload, 1)) (hs : mS M a = (2, n)) (h0 : 0 ≤ i) (h1 : i < n) (hx : mI M a i = x) (kk : EV G mt d kc ks Q (pc + 1) ls (vI x :: st) M) : EV G mt d kc ks Q pc ls (vI i :: vR a :: st) M := by
  intro p l e R s m args below meth c H locs cells slots mc ms lsR stR C0 hR hkk hl hP hL hst
  obtain ⟨v, rest, rfl, ⟨j, rfl, hj⟩, hs1⟩ := hst.c
  obtain ⟨v, rest, rfl, hv, hs2⟩ := hs1.c
  have hv : v = rfv G a := hv
  obtain ⟨ha, hn, f, h2, h3⟩ := hP.arrB hs
  rw [rfv_hi ha] at hv
  subst hv
  have hin := i32_in hj h0 h1
  have hlt : j.toNatClampNeg < n := Nat.not_le.mp fun q => hin (Or.inr q)
  have hval : (f j.toNatClampNeg).toInt = x := by
    rw [h3 _ hlt, i32_clamp hj, ← hx, Int.toNat_of_nonneg h0]
  exact W.bald (v := .int (f j.toNatClampNeg)) C0.1 C0.2.1 h2 (C0.2.2.2.2.2.2.2.2.2.1.2.1 n (fun j => .int (f j))) (fun q => by cases q) (by show ¬ (j < 0 ∨ (arrV _ _ _).slots.size ≤ _); rw [arrV_size]; exact hin) (by show (arrV _ _ _).slots[_]? = _; rw [arrV_read _ _ hlt]) rfl rfl hd (kk p l e R s m args below meth c H locs cells slots mc ms lsR _ C0 hR hkk hl hP hL ⟨⟨_, rfl, hval⟩, hs2⟩)
theorem E_zald {a n : Nat} {i x : Int} (hd : decode mt.2.1 pc = .ok (.baload, 1)) (hs : mS M a = (3, n)) (h0 : 0 ≤ i) (h1 : i < n) (hx : mI M a i = x) (kk : EV G mt d kc ks Q (pc + 1) ls (vI x :: st) M) : EV G mt d kc ks Q pc ls (vI i :: vR a :: st) M := by
  intro p l e R s m args below meth c H locs cells slots mc ms lsR stR C0 hR hkk hl hP hL hst
  obtain ⟨v, rest, rfl, ⟨j, rfl, hj⟩, hs1⟩ := hst.c
  obtain ⟨v, rest, rfl, hv, hs2⟩ := hs1.c
  have hv : v = rfv G a := hv
  obtain ⟨ha, hn, f, h2, h3⟩ := hP.arrZ hs
  rw [rfv_hi ha] at hv
  subst hv
  have hin := i32_in hj h0 h1
  have hlt : j.toNatClampNeg < n := Nat.not_le.mp fun q => hin (Or.inr q)
  have hval : (f j.toNatClampNeg).toInt = x := by
    rw [h3 _ hlt, i32_clamp hj, ← hx, Int.toNat_of_nonneg h0]
  exact W.zald (v := .int (f j.toNatClampNeg)) C0.1 C0.2.1 h2 (C0.2.2.2.2.2.2.2.2.2.1.2.2 n (fun j => .int (f j))) (fun q => by cases q) (by show ¬ (j < 0 ∨ (arrV _ _ _).slots.size ≤ _); rw [arrV_size]; exact hin) (by show (arrV _ _ _).slots[_]? = _; rw [arrV_read _ _ hlt]) rfl rfl hd (kk p l e R s m args below meth c H locs cells slots mc ms lsR _ C0 hR hkk hl hP hL ⟨⟨_, rfl, hval⟩, hs2⟩)
end EVB
end
section
section EVB
variable {G : Ctx} {mt : MT} {d kc ks : Nat} {Q : Option MV → Mem → Prop} {pc : Nat} {ls : List (Option MV)} {st : List MV} {M : Mem}
theorem E_iast {a n : Nat} {i x : Int} (hd : decode mt.2.1 pc = .ok (.iastore, 1)) (hs : mS M a = (1, n)) (h0 : 0 ≤ i) (h1 : i < n) (kk : EV G mt d kc ks Q (pc + 1) ls st (mWI M a i x)) : EV G mt d kc ks Q pc ls (vI x :: vI i :: vR a :: st) M := by
  intro p l e R s m args below meth c H locs cells slots mc ms lsR stR C0 hR hkk hl hP hL hst
  obtain ⟨v, rest, rfl, ⟨ix, rfl, hi⟩, hs1⟩ := hst.c
  obtain ⟨v, rest, rfl, ⟨j, rfl, hj⟩, hs2⟩ := hs1.c
  obtain ⟨v, rest, rfl, hv, hs3⟩ := hs2.c
  have hv : v = rfv G a := hv
  obtain ⟨ha, hn, f, h2, h3⟩ := hP.arr hs
  rw [rfv_hi ha] at hv
  subst hv
  have hin := i32_in hj h0 h1
  have hlt : j.toNatClampNeg < n := Nat.not_le.mp fun q => hin (Or.inr q)
  have hji : ((j.toNatClampNeg : Nat) : Int) = i := by rw [i32_clamp hj, Int.toNat_of_nonneg h0]
  refine W.iast C0.1 C0.2.1 h2 (C0.2.2.2.2.2.2.2.2.2.1.1 n (fun j => .int (f j))) (fun q => by cases q) (by show ¬ (j < 0 ∨ (arrV _ _ _).slots.size ≤ _); rw [arrV_size]; exact hin) rfl rfl hd fun H' e1 e2 e3 => ?_
  refine kk p l e R s m args below meth c H' _ cells slots mc ms lsR _ C0 hR hkk ?_ ?_ hL hs3
  · intro q hq
    rcases List.mem_append.mp hq with h | h
    · exact hl q h
    · rw [List.mem_singleton.mp h]
      show gb G ≤ am G a
      rw [am_hi ha]; omega
  · refine hP.write ha rfl rfl (fun b j hb => up2_ne _ _ (fun h => hb h.1)) (fun b j hb => rfl) e2 e3 ?_
    unfold CellR
    rw [show mS (mWI M a i x) a = (1, n) from hs]
    refine ⟨hn, fun q => if q = j.toNatClampNeg then ix else f q, ?_, fun q hq => ?_⟩
    · rw [e1, arrV_store]
      congr 2
      funext q
      by_cases hq : q = j.toNatClampNeg
      · simp [updV, hq]
      · simp [updV, hq]
    · by_cases hq2 : q = j.toNatClampNeg
      · subst hq2
        dsimp only
        rw [if_pos rfl, hi, hji]
        exact (up2_self _ _ _ _).symm
      · dsimp only
        rw [if_neg hq2, h3 q hq]
        refine (up2_ne _ _ (fun h => hq2 ?_)).symm
        have := h.2
        omega
theorem E_bast {a n : Nat} {i x : Int} (hd : decode mt.2.1 pc = .ok (.bastore, 1)) (hs : mS M a = (2, n)) (h0 : 0 ≤ i) (h1 : i < n) (hn0 : narrow .byte (.int (Int32.ofInt x)) = .int (Int32.ofInt x)) (kk : EV G mt d kc ks Q (pc + 1) ls st (mWI M a i x)) : EV G mt d kc ks Q pc ls (vI x :: vI i :: vR a :: st) M := by
  intro p l e R s m args below meth c H locs cells slots mc ms lsR stR C0 hR hkk hl hP hL hst
  obtain ⟨v, rest, rfl, ⟨ix, rfl, hi⟩, hs1⟩ := hst.c
  obtain ⟨v, rest, rfl, ⟨j, rfl, hj⟩, hs2⟩ := hs1.c
  obtain ⟨v, rest, rfl, hv, hs3⟩ := hs2.c
  have hv : v = rfv G a := hv
  obtain ⟨ha, hn, f, h2, h3⟩ := hP.arrB hs
  rw [rfv_hi ha] at hv
  subst hv
  have hin := i32_in hj h0 h1
  have hlt : j.toNatClampNeg < n := Nat.not_le.mp fun q => hin (Or.inr q)
  have hji : ((j.toNatClampNeg : Nat) : Int) = i := by rw [i32_clamp hj, Int.toNat_of_nonneg h0]
  refine W.bast C0.1 C0.2.1 h2 (C0.2.2.2.2.2.2.2.2.2.1.2.1 n (fun j => .int (f j))) (fun q => by cases q) (by show ¬ (j < 0 ∨ (arrV _ _ _).slots.size ≤ _); rw [arrV_size]; exact hin) rfl rfl hd fun H' e1 e2 e3 => ?_
  refine kk p l e R s m args below meth c H' _ cells slots mc ms lsR _ C0 hR hkk ?_ ?_ hL hs3
  · intro q hq
    rcases List.mem_append.mp hq with h | h
    · exact hl q h
    · rw [List.mem_singleton.mp h]
      show gb G ≤ am G a
      rw [am_hi ha]; omega
  · refine hP.write ha rfl rfl (fun b j hb => up2_ne _ _ (fun h => hb h.1)) (fun b j hb => rfl) e2 e3 ?_
    rw [show narrow .byte (.int ix) = .int ix by rw [← i32_of ix, hi]; exact hn0] at e1
    unfold CellR
    rw [show mS (mWI M a i x) a = (2, n) from hs]
    refine ⟨hn, fun q => if q = j.toNatClampNeg then ix else f q, ?_, fun q hq => ?_⟩
    · rw [e1, arrV_store]
      congr 2
      funext q
      by_cases hq : q = j.toNatClampNeg
      · simp [updV, hq]
      · simp [updV, hq]
    · by_cases hq2 : q = j.toNatClampNeg
      · subst hq2
        dsimp only
        rw [if_pos rfl, hi, hji]
        exact (up2_self _ _ _ _).symm
      · dsimp only
        rw [if_neg hq2, h3 q hq]
        refine (up2_ne _ _ (fun h => hq2 ?_)).symm
        have := h.2
        omega
theorem E_zast {a n : Nat} {i x : Int} (hd : decode mt.2.1 pc = .ok (.bastore, 1)) (hs : mS M a = (3, n)) (h0 : 0 ≤ i) (h1 : i < n) (hn0 : narrow .boolean (.int (Int32.ofInt x)) = .int (Int32.ofInt x)) (kk : EV G mt d kc ks Q (pc + 1) ls st (mWI M a i x)) : EV G mt d kc ks Q pc ls (vI x :: vI i :: vR a :: st) M := by
  intro p l e R s m args below meth c H locs cells slots mc ms lsR stR C0 hR hkk hl hP hL hst
  obtain ⟨v, rest, rfl, ⟨ix, rfl, hi⟩, hs1⟩ := hst.c
  obtain ⟨v, rest, rfl, ⟨j, rfl, hj⟩, hs2⟩ := hs1.c
  obtain ⟨v, rest, rfl, hv, hs3⟩ := hs2.c
  have hv : v = rfv G a := hv
  obtain ⟨ha, hn, f, h2, h3⟩ := hP.arrZ hs
  rw [rfv_hi ha] at hv
  subst hv
  have hin := i32_in hj h0 h1
  have hlt : j.toNatClampNeg < n := Nat.not_le.mp fun q => hin (Or.inr q)
  have hji : ((j.toNatClampNeg : Nat) : Int) = i := by rw [i32_clamp hj, Int.toNat_of_nonneg h0]
  refine W.zast C0.1 C0.2.1 h2 (C0.2.2.2.2.2.2.2.2.2.1.2.2 n (fun j => .int (f j))) (fun q => by cases q) (by show ¬ (j < 0 ∨ (arrV _ _ _).slots.size ≤ _); rw [arrV_size]; exact hin) rfl rfl hd fun H' e1 e2 e3 => ?_
  refine kk p l e R s m args below meth c H' _ cells slots mc ms lsR _ C0 hR hkk ?_ ?_ hL hs3
  · intro q hq
    rcases List.mem_append.mp hq with h | h
    · exact hl q h
    · rw [List.mem_singleton.mp h]
      show gb G ≤ am G a
      rw [am_hi ha]; omega
  · refine hP.write ha rfl rfl (fun b j hb => up2_ne _ _ (fun h => hb h.1)) (fun b j hb => rfl) e2 e3 ?_
    rw [show narrow .boolean (.int ix) = .int ix by rw [← i32_of ix, hi]; exact hn0] at e1
    unfold CellR
    rw [show mS (mWI M a i x) a = (3, n) from hs]
    refine ⟨hn, fun q => if q = j.toNatClampNeg then ix else f q, ?_, fun q hq => ?_⟩
    · rw [e1, arrV_store]
      congr 2
      funext q
      by_cases hq : q = j.toNatClampNeg
      · simp [updV, hq]
      · simp [updV, hq]
    · by_cases hq2 : q = j.toNatClampNeg
      · subst hq2
        dsimp only
        rw [if_pos rfl, hi, hji]
        exact (up2_self _ _ _ _).symm
      · dsimp only
        rw [if_neg hq2, h3 q hq]
        refine (up2_ne _ _ (fun h => hq2 ?_)).symm
        have := h.2
        omega
end EVB
end
section
section EVB
variable {G : Ctx} {mt : MT} {d kc ks : Nat} {Q : Option MV → Mem → Prop} {pc : Nat} {ls : List (Option MV)} {st : List MV} {M : Mem}
theorem E_alen {a n : Nat} (hd : decode mt.2.1 pc = .ok (.arraylength, 1)) (hs : mS M a = (1, n)) (kk : EV G mt d kc ks Q (pc + 1) ls (vI (n : Int) :: st) M) : EV G mt d kc ks Q pc ls (vR a :: st) M := by
  intro p l e R s m args below meth c H locs cells slots mc ms lsR stR C0 hR hkk hl hP hL hst
  obtain ⟨v, rest, rfl, hv, hs1⟩ := hst.c
  have hv : v = rfv G a := hv
  obtain ⟨ha, hn, f, h2, h3⟩ := hP.arr hs
  rw [rfv_hi ha] at hv
  subst hv
  exact W.alen (n := Int32.ofNat n) C0.1 C0.2.1 h2 (C0.2.2.2.2.2.2.2.2.2.1.1 n (fun j => .int (f j))) (by rw [arrV_size]) rfl rfl hd (kk p l e R s m args below meth c H locs cells slots mc ms lsR _ C0 hR hkk hl hP hL ⟨⟨_, rfl, nI_toInt (show _ < 2 ^ 31 by omega)⟩, hs1⟩)
/-- the script -/
theorem E_slen (hd : decode mt.2.1 pc = .ok (.arraylength, 1)) (hn : gL G < 2147483648) (kk : EV G mt d kc ks Q (pc + 1) ls (vI (gL G : Int) :: st) M) : EV G mt d kc ks Q pc ls (vR 1 :: st) M := by
  intro p l e R s m args below meth c H locs cells slots mc ms lsR stR C0 hR hkk hl hP hL hst
  obtain ⟨v, rest, rfl, hv, hs1⟩ := hst.c
  have hv : v = rfv G 1 := hv
  rw [show rfv G 1 = .ref (gs G) from rfl] at hv
  subst hv
  obtain ⟨⟨scr, x1, x2, x3, x4, x5⟩, hb⟩ := C0.2.2.2.2.2.2.2.2.2.2.2.1
  exact W.alen (n := Int32.ofNat (gL G)) C0.1 C0.2.1 ((hP.2.2.1 _ hb).trans x1) x2 (by rw [x4]) rfl rfl hd (kk p l e R s m args below meth c H locs cells slots mc ms lsR _ C0 hR hkk hl hP hL ⟨⟨_, rfl, nI_toInt (show _ < 2 ^ 31 by omega)⟩, hs1⟩)
theorem E_sld {i x : Int} (hd : decode mt.2.1 pc = .ok (.iaload, 1)) (h0 : 0 ≤ i) (h1 : i < gL G) (hx : mI M 1 i = x) (kk : EV G mt d kc ks Q (pc + 1) ls (vI x :: st) M) : EV G mt d kc ks Q pc ls (vI i :: vR 1 :: st) M := by
  intro p l e R s m args below meth c H locs cells slots mc ms lsR stR C0 hR hkk hl hP hL hst
  obtain ⟨v, rest, rfl, ⟨j, rfl, hj⟩, hs1⟩ := hst.c
  obtain ⟨v, rest, rfl, hv, hs2⟩ := hs1.c
  have hv : v = rfv G 1 := hv
  rw [show rfv G 1 = .ref (gs G) from rfl] at hv
  subst hv
  obtain ⟨⟨scr, x1, x2, x3, x4, x5⟩, hb⟩ := C0.2.2.2.2.2.2.2.2.2.2.2.1
  have hin := i32_in hj h0 h1
  have hlt : j.toNatClampNeg < gL G := Nat.not_le.mp fun q => hin (Or.inr q)
  have hval : (gx G j.toNatClampNeg).toInt = x := by
    rw [← hP.2.2.2.2.2.1, i32_clamp hj, ← hx, Int.toNat_of_nonneg h0]
  exact W.iald (v := .int (gx G j.toNatClampNeg)) C0.1 C0.2.1 ((hP.2.2.1 _ hb).trans x1) x2 x3 (by rw [x4]; exact hin) (x5 _ hlt) rfl rfl hd (kk p l e R s m args below meth c H locs cells slots mc ms lsR _ C0 hR hkk hl hP hL ⟨⟨_, rfl, hval⟩, hs2⟩)
end EVB
end
section
section EVB
variable {G : Ctx} {mt : MT} {d kc ks : Nat} {Q : Option MV → Mem → Prop} {pc : Nat} {ls : List (Option MV)} {st : List MV} {M : Mem}
theorem E_newI {n : Int} {N : Nat} (hd : decode mt.2.1 pc = .ok (.newarray .int, 2)) (hw : Cond.arrayClass .int ∈ AW) (h0 : n = (N : Int)) (h1 : N ≤ 1000000) (kk : EV G mt d kc ks Q (pc + 2) ls (vR (mN M) :: st) (mNew M (1, N))) : EV G mt d (kc + 1) (ks + N) Q pc ls (vI n :: st) M := by
  intro p l e R s m args below meth c H locs cells slots mc ms lsR stR C0 hR hkk hl hP hL hst
  obtain ⟨v, rest, rfl, ⟨j, rfl, hj⟩, hs1⟩ := hst.c
  have hN : j.toNatClampNeg = N := by rw [i32_clamp hj, h0]; rfl
  have hbt : N * componentBytes (newarray.typeOf .int) ≤ 536870912 := by
    have h5 : componentBytes (newarray.typeOf .int) = 4 := rfl
    rw [h5]; omega
  refine va_newaK (atype := .int) C0.1 C0.2.1 (C0.2.2.2.2.1 _ hw) rfl hd rfl (by rw [Int32.lt_iff_toInt_lt, hj, h0]; show ¬ (N : Int) < 0; omega) hN hbt (by omega) (by omega) rfl fun H' cA e1 e2 e3 e4 e5 => ?_
  have hcA : cA = gI G := Option.some.inj (e5.symm.trans C0.2.2.2.2.2.2.2.2.2.2.1.1)
  subst hcA
  have hq := hP.push (H' := H') (1, N) (by rw [e2]) e3 (by
    unfold CellR
    rw [show mS (mNew M (1, N)) (mN M) = (1, N) by simp [mS, mNew, mN]]
    refine ⟨by omega, fun _ => 0, ?_, fun j hj => ?_⟩
    · rw [show am G (mN M) = H.size by rw [am_hi hP.1, hP.2.1]]
      exact e1
    · simp [mI, mNew, mN])
  exact kk p l e R s m args below meth c H' locs (cells + 1) (slots + N) mc ms lsR _ C0 hR (by omega) hl hq.1 hL ⟨by show _ = rfv G _; rw [rfv_hi hP.1, hq.2], hs1⟩
theorem E_newB {n : Int} {N : Nat} (hd : decode mt.2.1 pc = .ok (.newarray .byte, 2)) (hw : Cond.arrayClass .byte ∈ AW) (h0 : n = (N : Int)) (h1 : N ≤ 1000000) (kk : EV G mt d kc ks Q (pc + 2) ls (vR (mN M) :: st) (mNew M (2, N))) : EV G mt d (kc + 1) (ks + N) Q pc ls (vI n :: st) M := by
  intro p l e R s m args below meth c H locs cells slots mc ms lsR stR C0 hR hkk hl hP hL hst
  obtain ⟨v, rest, rfl, ⟨j, rfl, hj⟩, hs1⟩ := hst.c
  have hN : j.toNatClampNeg = N := by rw [i32_clamp hj, h0]; rfl
  have hbt : N * componentBytes (newarray.typeOf .byte) ≤ 536870912 := by
    have h5 : componentBytes (newarray.typeOf .byte) = 1 := rfl
    rw [h5]; omega
  refine va_newaK (atype := .byte) C0.1 C0.2.1 (C0.2.2.2.2.1 _ hw) rfl hd rfl (by rw [Int32.lt_iff_toInt_lt, hj, h0]; show ¬ (N : Int) < 0; omega) hN hbt (by omega) (by omega) rfl fun H' cA e1 e2 e3 e4 e5 => ?_
  have hcA : cA = gB G := Option.some.inj (e5.symm.trans C0.2.2.2.2.2.2.2.2.2.2.1.2.1)
  subst hcA
  have hq := hP.push (H' := H') (2, N) (by rw [e2]) e3 (by
    unfold CellR
    rw [show mS (mNew M (2, N)) (mN M) = (2, N) by simp [mS, mNew, mN]]
    refine ⟨by omega, fun _ => 0, ?_, fun j hj => ?_⟩
    · rw [show am G (mN M) = H.size by rw [am_hi hP.1, hP.2.1]]
      exact e1
    · simp [mI, mNew, mN])
  exact kk p l e R s m args below meth c H' locs (cells + 1) (slots + N) mc ms lsR _ C0 hR (by omega) hl hq.1 hL ⟨by show _ = rfv G _; rw [rfv_hi hP.1, hq.2], hs1⟩
theorem E_newZ {n : Int} {N : Nat} (hd : decode mt.2.1 pc = .ok (.newarray .boolean, 2)) (hw : Cond.arrayClass .boolean ∈ AW) (h0 : n = (N : Int)) (h1 : N ≤ 1000000) (kk : EV G mt d kc ks Q (pc + 2) ls (vR (mN M) :: st) (mNew M (3, N))) : EV G mt d (kc + 1) (ks + N) Q pc ls (vI n :: st) M := by
  intro p l e R s m args below meth c H locs cells slots mc ms lsR stR C0 hR hkk hl hP hL hst
  obtain ⟨v, rest, rfl, ⟨j, rfl, hj⟩, hs1⟩ := hst.c
  have hN : j.toNatClampNeg = N := by rw [i32_clamp hj, h0]; rfl
  have hbt : N * componentBytes (newarray.typeOf .boolean) ≤ 536870912 := by
    have h5 : componentBytes (newarray.typeOf .boolean) = 1 := rfl
    rw [h5]; omega
  refine va_newaK (atype := .boolean) C0.1 C0.2.1 (C0.2.2.2.2.1 _ hw) rfl hd rfl (by rw [Int32.lt_iff_toInt_lt, hj, h0]; show ¬ (N : Int) < 0; omega) hN hbt (by omega) (by omega) rfl fun H' cA e1 e2 e3 e4 e5 => ?_
  have hcA : cA = gZ G := Option.some.inj (e5.symm.trans C0.2.2.2.2.2.2.2.2.2.2.1.2.2)
  subst hcA
  have hq := hP.push (H' := H') (3, N) (by rw [e2]) e3 (by
    unfold CellR
    rw [show mS (mNew M (3, N)) (mN M) = (3, N) by simp [mS, mNew, mN]]
    refine ⟨by omega, fun _ => 0, ?_, fun j hj => ?_⟩
    · rw [show am G (mN M) = H.size by rw [am_hi hP.1, hP.2.1]]
      exact e1
    · simp [mI, mNew, mN])
  exact kk p l e R s m args below meth c H' locs (cells + 1) (slots + N) mc ms lsR _ C0 hR (by omega) hl hq.1 hL ⟨by show _ = rfv G _; rw [rfv_hi hP.1, hq.2], hs1⟩
theorem E_new {ci idx : Nat} {C : String} {T : u_T} {N : Nat} (hd : decode mt.2.1 pc = .ok (.new idx, 3)) (hc : cls_[ci]? = some (C, T, N)) (hin : ∀ w ∈ u_ws C T N, w ∈ AW) (hty : ∀ k, k < N → parseFieldDescriptor (T k).2.2.1 = some (tyC ci k)) (hdv : ∀ k, k < N → defaultValue (tyC ci k) = if fk ci k = true then .null else .int 0)
    (hcl : Cond.classLink mt.1.cls idx C ∈ AW) (hinst : Cond.instantiable C N ∈ AW) (hini : Cond.initialized C ∈ AW) (kk : EV G mt d kc ks Q (pc + 3) ls (vR (mN M) :: st) (mNew M (4, ci))) : EV G mt d (kc + 1) (ks + N) Q pc ls st M := by
  intro p l e R s m args below meth c H locs cells slots mc ms lsR stR C0 hR hkk hl hP hL hst
  have hts := C0.2.2.2.2.1
  have hKn := C0.2.2.2.2.2.2.2.2.1.1 ci _ hc
  refine W.newcK C0.1 C0.2.1 C0.2.2.2.1 (hts _ hcl) (hts _ hinst) (hts _ hini) rfl hd (by omega) (by omega) hKn.2.1 rfl fun H' kC hkC e1 e2 e3 => ?_
  have hq := hP.push (H' := H') (4, ci) (by rw [e2]) e3 (by
    unfold CellR
    rw [show mS (mNew M (4, ci)) (mN M) = (4, ci) by simp [mS, mNew, mN]]
    refine ⟨_, _, hc, u_born (tyC ci) hts hin hKn hkC (by rw [show am G (mN M) = H.size by rw [am_hi hP.1, hP.2.1]]; exact e1) hty, fun k hk => ?_⟩
    unfold FV
    rw [hdv k hk]
    by_cases hf : fk ci k = true
    · rw [if_pos hf, if_pos hf]
      rw [show mR (mNew M (4, ci)) (mN M) k = 0 by simp [mR, mNew, mN]]
      rfl
    · rw [if_neg hf, if_neg hf]
      exact ⟨0, rfl, by simp [mI, mNew, mN]⟩)
  exact kk p l e R s m args below meth c H' locs (cells + 1) (slots + N) mc ms lsR _ C0 hR (by omega) hl hq.1 hL ⟨by show _ = rfv G _; rw [rfv_hi hP.1, hq.2], hst⟩
end EVB
end
