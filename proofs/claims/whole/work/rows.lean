section
-- ===== PART A: goes FIRST, ahead of the names: the tables' words, and 'selects' of the private methods out of them =====
/-- a private method of a class that the tables say can be made, by its rows of tables_1 -/
def lw_okq (q : MethodName × Nat) : Prop := (q.1.cls ≠ "java/lang/invoke/MethodHandle" ∧ q.1.cls ≠ "java/lang/invoke/VarHandle") ∧ Cond.instantiable q.1.cls q.2 ∈ tables_1 ∧ Cond.privateMethod q.1 ∈ tables_1 ∧ Cond.instanceMethod q.1 ∈ tables_1
theorem lw_p0 : lw_okq (⟨"ChestnutCorner", "finding", "(I)I"⟩, 10) := ⟨⟨by decide +kernel, by decide +kernel⟩, List.mem_of_getElem? (i := 19) (by decide +kernel), List.mem_of_getElem? (i := 269) (by decide +kernel), List.mem_of_getElem? (i := 270) (by decide +kernel)⟩
theorem lw_p1 : lw_okq (⟨"ChestnutCorner", "isBatch", "(I)Z"⟩, 10) := ⟨⟨by decide +kernel, by decide +kernel⟩, List.mem_of_getElem? (i := 19) (by decide +kernel), List.mem_of_getElem? (i := 286) (by decide +kernel), List.mem_of_getElem? (i := 287) (by decide +kernel)⟩
theorem lw_p2 : lw_okq (⟨"ChestnutCorner", "exchange", "([IIII)I"⟩, 10) := ⟨⟨by decide +kernel, by decide +kernel⟩, List.mem_of_getElem? (i := 19) (by decide +kernel), List.mem_of_getElem? (i := 306) (by decide +kernel), List.mem_of_getElem? (i := 307) (by decide +kernel)⟩
theorem lw_p3 : lw_okq (⟨"ChestnutCorner", "isCrowd", "(I)Z"⟩, 10) := ⟨⟨by decide +kernel, by decide +kernel⟩, List.mem_of_getElem? (i := 19) (by decide +kernel), List.mem_of_getElem? (i := 414) (by decide +kernel), List.mem_of_getElem? (i := 415) (by decide +kernel)⟩
theorem lw_p4 : lw_okq (⟨"ChestnutCorner", "isTooLate", "(I)Z"⟩, 10) := ⟨⟨by decide +kernel, by decide +kernel⟩, List.mem_of_getElem? (i := 19) (by decide +kernel), List.mem_of_getElem? (i := 433) (by decide +kernel), List.mem_of_getElem? (i := 434) (by decide +kernel)⟩
theorem lw_p5 : lw_okq (⟨"ChestnutCorner$Evening", "warm", "()V"⟩, 15) := ⟨⟨by decide +kernel, by decide +kernel⟩, List.mem_of_getElem? (i := 27) (by decide +kernel), List.mem_of_getElem? (i := 441) (by decide +kernel), List.mem_of_getElem? (i := 442) (by decide +kernel)⟩
theorem lw_p6 : lw_okq (⟨"ChestnutCorner$Nuts", "roastBy", "(II)V"⟩, 6) := ⟨⟨by decide +kernel, by decide +kernel⟩, List.mem_of_getElem? (i := 33) (by decide +kernel), List.mem_of_getElem? (i := 454) (by decide +kernel), List.mem_of_getElem? (i := 455) (by decide +kernel)⟩
theorem lw_p7 : lw_okq (⟨"ChestnutCorner$Evening", "serve", "()V"⟩, 15) := ⟨⟨by decide +kernel, by decide +kernel⟩, List.mem_of_getElem? (i := 27) (by decide +kernel), List.mem_of_getElem? (i := 467) (by decide +kernel), List.mem_of_getElem? (i := 468) (by decide +kernel)⟩
theorem lw_p8 : lw_okq (⟨"ChestnutCorner$Evening", "sell", "(IIII)I"⟩, 15) := ⟨⟨by decide +kernel, by decide +kernel⟩, List.mem_of_getElem? (i := 27) (by decide +kernel), List.mem_of_getElem? (i := 472) (by decide +kernel), List.mem_of_getElem? (i := 473) (by decide +kernel)⟩
theorem lw_p9 : lw_okq (⟨"ChestnutCorner", "minutesToReady", "(II)I"⟩, 10) := ⟨⟨by decide +kernel, by decide +kernel⟩, List.mem_of_getElem? (i := 19) (by decide +kernel), List.mem_of_getElem? (i := 530) (by decide +kernel), List.mem_of_getElem? (i := 531) (by decide +kernel)⟩
theorem lw_p10 : lw_okq (⟨"ChestnutCorner", "isReadyJustAt", "(II)Z"⟩, 10) := ⟨⟨by decide +kernel, by decide +kernel⟩, List.mem_of_getElem? (i := 19) (by decide +kernel), List.mem_of_getElem? (i := 542) (by decide +kernel), List.mem_of_getElem? (i := 543) (by decide +kernel)⟩
theorem lw_p11 : lw_okq (⟨"ChestnutCorner", "coinTakenOff", "(II)I"⟩, 10) := ⟨⟨by decide +kernel, by decide +kernel⟩, List.mem_of_getElem? (i := 19) (by decide +kernel), List.mem_of_getElem? (i := 556) (by decide +kernel), List.mem_of_getElem? (i := 557) (by decide +kernel)⟩
theorem lw_p12 : lw_okq (⟨"ChestnutCorner", "coinFromCorner", "(II)I"⟩, 10) := ⟨⟨by decide +kernel, by decide +kernel⟩, List.mem_of_getElem? (i := 19) (by decide +kernel), List.mem_of_getElem? (i := 576) (by decide +kernel), List.mem_of_getElem? (i := 577) (by decide +kernel)⟩
theorem lw_p13 : lw_okq (⟨"ChestnutCorner", "coinWithout", "(II)I"⟩, 10) := ⟨⟨by decide +kernel, by decide +kernel⟩, List.mem_of_getElem? (i := 19) (by decide +kernel), List.mem_of_getElem? (i := 596) (by decide +kernel), List.mem_of_getElem? (i := 597) (by decide +kernel)⟩
theorem lw_p14 : lw_okq (⟨"ChestnutCorner$Tape", "readWord", "()V"⟩, 6) := ⟨⟨by decide +kernel, by decide +kernel⟩, List.mem_of_getElem? (i := 171) (by decide +kernel), List.mem_of_getElem? (i := 656) (by decide +kernel), List.mem_of_getElem? (i := 657) (by decide +kernel)⟩
theorem lw_p15 : lw_okq (⟨"ChestnutCorner$Tape", "readNumber", "()V"⟩, 6) := ⟨⟨by decide +kernel, by decide +kernel⟩, List.mem_of_getElem? (i := 171) (by decide +kernel), List.mem_of_getElem? (i := 663) (by decide +kernel), List.mem_of_getElem? (i := 664) (by decide +kernel)⟩
def lw_privs_1 : List (MethodName × Nat) := [(⟨"ChestnutCorner", "finding", "(I)I"⟩, 10), (⟨"ChestnutCorner", "isBatch", "(I)Z"⟩, 10), (⟨"ChestnutCorner", "exchange", "([IIII)I"⟩, 10), (⟨"ChestnutCorner", "isCrowd", "(I)Z"⟩, 10), (⟨"ChestnutCorner", "isTooLate", "(I)Z"⟩, 10), (⟨"ChestnutCorner$Evening", "warm", "()V"⟩, 15), (⟨"ChestnutCorner$Nuts", "roastBy", "(II)V"⟩, 6), (⟨"ChestnutCorner$Evening", "serve", "()V"⟩, 15), (⟨"ChestnutCorner$Evening", "sell", "(IIII)I"⟩, 15), (⟨"ChestnutCorner", "minutesToReady", "(II)I"⟩, 10), (⟨"ChestnutCorner", "isReadyJustAt", "(II)Z"⟩, 10), (⟨"ChestnutCorner", "coinTakenOff", "(II)I"⟩, 10), (⟨"ChestnutCorner", "coinFromCorner", "(II)I"⟩, 10), (⟨"ChestnutCorner", "coinWithout", "(II)I"⟩, 10), (⟨"ChestnutCorner$Tape", "readWord", "()V"⟩, 6), (⟨"ChestnutCorner$Tape", "readNumber", "()V"⟩, 6)]
theorem lw_r1 : ∀ q ∈ lw_privs_1, lw_okq q := List.forall_mem_cons.mpr ⟨lw_p0, List.forall_mem_cons.mpr ⟨lw_p1, List.forall_mem_cons.mpr ⟨lw_p2, List.forall_mem_cons.mpr ⟨lw_p3, List.forall_mem_cons.mpr ⟨lw_p4, List.forall_mem_cons.mpr ⟨lw_p5, List.forall_mem_cons.mpr ⟨lw_p6, List.forall_mem_cons.mpr ⟨lw_p7, List.forall_mem_cons.mpr ⟨lw_p8, List.forall_mem_cons.mpr ⟨lw_p9, List.forall_mem_cons.mpr ⟨lw_p10, List.forall_mem_cons.mpr ⟨lw_p11, List.forall_mem_cons.mpr ⟨lw_p12, List.forall_mem_cons.mpr ⟨lw_p13, List.forall_mem_cons.mpr ⟨lw_p14, List.forall_mem_cons.mpr ⟨lw_p15, fun _ h => absurd h List.not_mem_nil⟩⟩⟩⟩⟩⟩⟩⟩⟩⟩⟩⟩⟩⟩⟩⟩
theorem lw_p16 : lw_okq (⟨"ChestnutCorner$TextReader", "readItem", "()Z"⟩, 2) := ⟨⟨by decide +kernel, by decide +kernel⟩, List.mem_of_getElem? (i := 200) (by decide +kernel), List.mem_of_getElem? (i := 668) (by decide +kernel), List.mem_of_getElem? (i := 669) (by decide +kernel)⟩
theorem lw_p17 : lw_okq (⟨"ChestnutCorner$TextReader", "readCrowd", "()Z"⟩, 2) := ⟨⟨by decide +kernel, by decide +kernel⟩, List.mem_of_getElem? (i := 200) (by decide +kernel), List.mem_of_getElem? (i := 725) (by decide +kernel), List.mem_of_getElem? (i := 726) (by decide +kernel)⟩
theorem lw_p18 : lw_okq (⟨"ChestnutCorner$TextReader", "readNumberBehind", "(I)I"⟩, 2) := ⟨⟨by decide +kernel, by decide +kernel⟩, List.mem_of_getElem? (i := 200) (by decide +kernel), List.mem_of_getElem? (i := 730) (by decide +kernel), List.mem_of_getElem? (i := 731) (by decide +kernel)⟩
theorem lw_p19 : lw_okq (⟨"ChestnutCorner$TextReader", "readRule", "(I)Z"⟩, 2) := ⟨⟨by decide +kernel, by decide +kernel⟩, List.mem_of_getElem? (i := 200) (by decide +kernel), List.mem_of_getElem? (i := 739) (by decide +kernel), List.mem_of_getElem? (i := 740) (by decide +kernel)⟩
theorem lw_p20 : lw_okq (⟨"ChestnutCorner$TextReader", "readBatch", "()Z"⟩, 2) := ⟨⟨by decide +kernel, by decide +kernel⟩, List.mem_of_getElem? (i := 200) (by decide +kernel), List.mem_of_getElem? (i := 747) (by decide +kernel), List.mem_of_getElem? (i := 748) (by decide +kernel)⟩
theorem lw_p21 : lw_okq (⟨"ChestnutCorner$TextReader", "kindTold", "()I"⟩, 2) := ⟨⟨by decide +kernel, by decide +kernel⟩, List.mem_of_getElem? (i := 200) (by decide +kernel), List.mem_of_getElem? (i := 751) (by decide +kernel), List.mem_of_getElem? (i := 752) (by decide +kernel)⟩
theorem lw_p22 : lw_okq (⟨"ChestnutCorner$TextReader", "placeTold", "()I"⟩, 2) := ⟨⟨by decide +kernel, by decide +kernel⟩, List.mem_of_getElem? (i := 200) (by decide +kernel), List.mem_of_getElem? (i := 765) (by decide +kernel), List.mem_of_getElem? (i := 766) (by decide +kernel)⟩
theorem lw_p23 : lw_okq (⟨"ChestnutCornerModel", "finds", "(I)I"⟩, 15) := ⟨⟨by decide +kernel, by decide +kernel⟩, List.mem_of_getElem? (i := 873) (by decide +kernel), List.mem_of_getElem? (i := 934) (by decide +kernel), List.mem_of_getElem? (i := 935) (by decide +kernel)⟩
theorem lw_p24 : lw_okq (⟨"ChestnutCornerModel", "newBatch", "(III)I"⟩, 15) := ⟨⟨by decide +kernel, by decide +kernel⟩, List.mem_of_getElem? (i := 873) (by decide +kernel), List.mem_of_getElem? (i := 939) (by decide +kernel), List.mem_of_getElem? (i := 940) (by decide +kernel)⟩
theorem lw_p25 : lw_okq (⟨"ChestnutCornerModel", "isBatch", "(I)Z"⟩, 15) := ⟨⟨by decide +kernel, by decide +kernel⟩, List.mem_of_getElem? (i := 873) (by decide +kernel), List.mem_of_getElem? (i := 950) (by decide +kernel), List.mem_of_getElem? (i := 951) (by decide +kernel)⟩
theorem lw_p26 : lw_okq (⟨"ChestnutCornerModel", "its", "(II)I"⟩, 15) := ⟨⟨by decide +kernel, by decide +kernel⟩, List.mem_of_getElem? (i := 873) (by decide +kernel), List.mem_of_getElem? (i := 955) (by decide +kernel), List.mem_of_getElem? (i := 956) (by decide +kernel)⟩
theorem lw_p27 : lw_okq (⟨"ChestnutCornerModel", "readyAt", "(I)I"⟩, 15) := ⟨⟨by decide +kernel, by decide +kernel⟩, List.mem_of_getElem? (i := 873) (by decide +kernel), List.mem_of_getElem? (i := 959) (by decide +kernel), List.mem_of_getElem? (i := 960) (by decide +kernel)⟩
theorem lw_p28 : lw_okq (⟨"ChestnutCornerModel", "burntAt", "(I)I"⟩, 15) := ⟨⟨by decide +kernel, by decide +kernel⟩, List.mem_of_getElem? (i := 873) (by decide +kernel), List.mem_of_getElem? (i := 963) (by decide +kernel), List.mem_of_getElem? (i := 964) (by decide +kernel)⟩
theorem lw_p29 : lw_okq (⟨"ChestnutCornerModel", "worth", "(I)I"⟩, 15) := ⟨⟨by decide +kernel, by decide +kernel⟩, List.mem_of_getElem? (i := 873) (by decide +kernel), List.mem_of_getElem? (i := 967) (by decide +kernel), List.mem_of_getElem? (i := 968) (by decide +kernel)⟩
theorem lw_p30 : lw_okq (⟨"ChestnutCornerModel", "isRoom", "(I)Z"⟩, 15) := ⟨⟨by decide +kernel, by decide +kernel⟩, List.mem_of_getElem? (i := 873) (by decide +kernel), List.mem_of_getElem? (i := 986) (by decide +kernel), List.mem_of_getElem? (i := 987) (by decide +kernel)⟩
theorem lw_p31 : lw_okq (⟨"ChestnutCornerModel", "placed", "(I)I"⟩, 15) := ⟨⟨by decide +kernel, by decide +kernel⟩, List.mem_of_getElem? (i := 873) (by decide +kernel), List.mem_of_getElem? (i := 990) (by decide +kernel), List.mem_of_getElem? (i := 991) (by decide +kernel)⟩
def lw_privs_2 : List (MethodName × Nat) := [(⟨"ChestnutCorner$TextReader", "readItem", "()Z"⟩, 2), (⟨"ChestnutCorner$TextReader", "readCrowd", "()Z"⟩, 2), (⟨"ChestnutCorner$TextReader", "readNumberBehind", "(I)I"⟩, 2), (⟨"ChestnutCorner$TextReader", "readRule", "(I)Z"⟩, 2), (⟨"ChestnutCorner$TextReader", "readBatch", "()Z"⟩, 2), (⟨"ChestnutCorner$TextReader", "kindTold", "()I"⟩, 2), (⟨"ChestnutCorner$TextReader", "placeTold", "()I"⟩, 2), (⟨"ChestnutCornerModel", "finds", "(I)I"⟩, 15), (⟨"ChestnutCornerModel", "newBatch", "(III)I"⟩, 15), (⟨"ChestnutCornerModel", "isBatch", "(I)Z"⟩, 15), (⟨"ChestnutCornerModel", "its", "(II)I"⟩, 15), (⟨"ChestnutCornerModel", "readyAt", "(I)I"⟩, 15), (⟨"ChestnutCornerModel", "burntAt", "(I)I"⟩, 15), (⟨"ChestnutCornerModel", "worth", "(I)I"⟩, 15), (⟨"ChestnutCornerModel", "isRoom", "(I)Z"⟩, 15), (⟨"ChestnutCornerModel", "placed", "(I)I"⟩, 15)]
theorem lw_r2 : ∀ q ∈ lw_privs_2, lw_okq q := List.forall_mem_cons.mpr ⟨lw_p16, List.forall_mem_cons.mpr ⟨lw_p17, List.forall_mem_cons.mpr ⟨lw_p18, List.forall_mem_cons.mpr ⟨lw_p19, List.forall_mem_cons.mpr ⟨lw_p20, List.forall_mem_cons.mpr ⟨lw_p21, List.forall_mem_cons.mpr ⟨lw_p22, List.forall_mem_cons.mpr ⟨lw_p23, List.forall_mem_cons.mpr ⟨lw_p24, List.forall_mem_cons.mpr ⟨lw_p25, List.forall_mem_cons.mpr ⟨lw_p26, List.forall_mem_cons.mpr ⟨lw_p27, List.forall_mem_cons.mpr ⟨lw_p28, List.forall_mem_cons.mpr ⟨lw_p29, List.forall_mem_cons.mpr ⟨lw_p30, List.forall_mem_cons.mpr ⟨lw_p31, fun _ h => absurd h List.not_mem_nil⟩⟩⟩⟩⟩⟩⟩⟩⟩⟩⟩⟩⟩⟩⟩⟩
theorem lw_p32 : lw_okq (⟨"ChestnutCornerModel", "putsAt", "(II)V"⟩, 15) := ⟨⟨by decide +kernel, by decide +kernel⟩, List.mem_of_getElem? (i := 873) (by decide +kernel), List.mem_of_getElem? (i := 997) (by decide +kernel), List.mem_of_getElem? (i := 998) (by decide +kernel)⟩
theorem lw_p33 : lw_okq (⟨"ChestnutCornerModel", "goes", "(I)V"⟩, 15) := ⟨⟨by decide +kernel, by decide +kernel⟩, List.mem_of_getElem? (i := 873) (by decide +kernel), List.mem_of_getElem? (i := 1001) (by decide +kernel), List.mem_of_getElem? (i := 1002) (by decide +kernel)⟩
theorem lw_p34 : lw_okq (⟨"ChestnutCornerModel", "heatsOf", "(II)I"⟩, 15) := ⟨⟨by decide +kernel, by decide +kernel⟩, List.mem_of_getElem? (i := 873) (by decide +kernel), List.mem_of_getElem? (i := 1010) (by decide +kernel), List.mem_of_getElem? (i := 1011) (by decide +kernel)⟩
theorem lw_p35 : lw_okq (⟨"ChestnutCornerModel", "howIs", "(I)I"⟩, 15) := ⟨⟨by decide +kernel, by decide +kernel⟩, List.mem_of_getElem? (i := 873) (by decide +kernel), List.mem_of_getElem? (i := 1018) (by decide +kernel), List.mem_of_getElem? (i := 1019) (by decide +kernel)⟩
theorem lw_p36 : lw_okq (⟨"ChestnutCornerModel", "isBurnt", "(I)Z"⟩, 15) := ⟨⟨by decide +kernel, by decide +kernel⟩, List.mem_of_getElem? (i := 873) (by decide +kernel), List.mem_of_getElem? (i := 1022) (by decide +kernel), List.mem_of_getElem? (i := 1023) (by decide +kernel)⟩
theorem lw_p37 : lw_okq (⟨"ChestnutCornerModel", "isReady", "(I)Z"⟩, 15) := ⟨⟨by decide +kernel, by decide +kernel⟩, List.mem_of_getElem? (i := 873) (by decide +kernel), List.mem_of_getElem? (i := 1026) (by decide +kernel), List.mem_of_getElem? (i := 1027) (by decide +kernel)⟩
theorem lw_p38 : lw_okq (⟨"ChestnutCornerModel", "dueAll", "()I"⟩, 15) := ⟨⟨by decide +kernel, by decide +kernel⟩, List.mem_of_getElem? (i := 873) (by decide +kernel), List.mem_of_getElem? (i := 1034) (by decide +kernel), List.mem_of_getElem? (i := 1035) (by decide +kernel)⟩
theorem lw_p39 : lw_okq (⟨"ChestnutCornerModel", "walks", "(I)V"⟩, 15) := ⟨⟨by decide +kernel, by decide +kernel⟩, List.mem_of_getElem? (i := 873) (by decide +kernel), List.mem_of_getElem? (i := 1052) (by decide +kernel), List.mem_of_getElem? (i := 1053) (by decide +kernel)⟩
theorem lw_p40 : lw_okq (⟨"ChestnutCornerModel", "newCrowd", "(III)I"⟩, 15) := ⟨⟨by decide +kernel, by decide +kernel⟩, List.mem_of_getElem? (i := 873) (by decide +kernel), List.mem_of_getElem? (i := 1064) (by decide +kernel), List.mem_of_getElem? (i := 1065) (by decide +kernel)⟩
theorem lw_p41 : lw_okq (⟨"ChestnutCornerModel", "isCrowd", "(I)Z"⟩, 15) := ⟨⟨by decide +kernel, by decide +kernel⟩, List.mem_of_getElem? (i := 873) (by decide +kernel), List.mem_of_getElem? (i := 1075) (by decide +kernel), List.mem_of_getElem? (i := 1076) (by decide +kernel)⟩
theorem lw_p42 : lw_okq (⟨"ChestnutCornerModel", "told", "(II)I"⟩, 15) := ⟨⟨by decide +kernel, by decide +kernel⟩, List.mem_of_getElem? (i := 873) (by decide +kernel), List.mem_of_getElem? (i := 1079) (by decide +kernel), List.mem_of_getElem? (i := 1080) (by decide +kernel)⟩
theorem lw_p43 : lw_okq (⟨"ChestnutCornerModel", "come", "(I)I"⟩, 15) := ⟨⟨by decide +kernel, by decide +kernel⟩, List.mem_of_getElem? (i := 873) (by decide +kernel), List.mem_of_getElem? (i := 1083) (by decide +kernel), List.mem_of_getElem? (i := 1084) (by decide +kernel)⟩
theorem lw_p44 : lw_okq (⟨"ChestnutCornerModel", "isTooLate", "(I)Z"⟩, 15) := ⟨⟨by decide +kernel, by decide +kernel⟩, List.mem_of_getElem? (i := 873) (by decide +kernel), List.mem_of_getElem? (i := 1096) (by decide +kernel), List.mem_of_getElem? (i := 1097) (by decide +kernel)⟩
theorem lw_p45 : lw_okq (⟨"ChestnutCornerModel", "minutesGo", "(I)V"⟩, 15) := ⟨⟨by decide +kernel, by decide +kernel⟩, List.mem_of_getElem? (i := 873) (by decide +kernel), List.mem_of_getElem? (i := 1100) (by decide +kernel), List.mem_of_getElem? (i := 1101) (by decide +kernel)⟩
theorem lw_p46 : lw_okq (⟨"ChestnutCornerModel", "minute", "()V"⟩, 15) := ⟨⟨by decide +kernel, by decide +kernel⟩, List.mem_of_getElem? (i := 873) (by decide +kernel), List.mem_of_getElem? (i := 1104) (by decide +kernel), List.mem_of_getElem? (i := 1105) (by decide +kernel)⟩
theorem lw_p47 : lw_okq (⟨"ChestnutCornerModel", "warms", "()V"⟩, 15) := ⟨⟨by decide +kernel, by decide +kernel⟩, List.mem_of_getElem? (i := 873) (by decide +kernel), List.mem_of_getElem? (i := 1108) (by decide +kernel), List.mem_of_getElem? (i := 1109) (by decide +kernel)⟩
def lw_privs_3 : List (MethodName × Nat) := [(⟨"ChestnutCornerModel", "putsAt", "(II)V"⟩, 15), (⟨"ChestnutCornerModel", "goes", "(I)V"⟩, 15), (⟨"ChestnutCornerModel", "heatsOf", "(II)I"⟩, 15), (⟨"ChestnutCornerModel", "howIs", "(I)I"⟩, 15), (⟨"ChestnutCornerModel", "isBurnt", "(I)Z"⟩, 15), (⟨"ChestnutCornerModel", "isReady", "(I)Z"⟩, 15), (⟨"ChestnutCornerModel", "dueAll", "()I"⟩, 15), (⟨"ChestnutCornerModel", "walks", "(I)V"⟩, 15), (⟨"ChestnutCornerModel", "newCrowd", "(III)I"⟩, 15), (⟨"ChestnutCornerModel", "isCrowd", "(I)Z"⟩, 15), (⟨"ChestnutCornerModel", "told", "(II)I"⟩, 15), (⟨"ChestnutCornerModel", "come", "(I)I"⟩, 15), (⟨"ChestnutCornerModel", "isTooLate", "(I)Z"⟩, 15), (⟨"ChestnutCornerModel", "minutesGo", "(I)V"⟩, 15), (⟨"ChestnutCornerModel", "minute", "()V"⟩, 15), (⟨"ChestnutCornerModel", "warms", "()V"⟩, 15)]
theorem lw_r3 : ∀ q ∈ lw_privs_3, lw_okq q := List.forall_mem_cons.mpr ⟨lw_p32, List.forall_mem_cons.mpr ⟨lw_p33, List.forall_mem_cons.mpr ⟨lw_p34, List.forall_mem_cons.mpr ⟨lw_p35, List.forall_mem_cons.mpr ⟨lw_p36, List.forall_mem_cons.mpr ⟨lw_p37, List.forall_mem_cons.mpr ⟨lw_p38, List.forall_mem_cons.mpr ⟨lw_p39, List.forall_mem_cons.mpr ⟨lw_p40, List.forall_mem_cons.mpr ⟨lw_p41, List.forall_mem_cons.mpr ⟨lw_p42, List.forall_mem_cons.mpr ⟨lw_p43, List.forall_mem_cons.mpr ⟨lw_p44, List.forall_mem_cons.mpr ⟨lw_p45, List.forall_mem_cons.mpr ⟨lw_p46, List.forall_mem_cons.mpr ⟨lw_p47, fun _ h => absurd h List.not_mem_nil⟩⟩⟩⟩⟩⟩⟩⟩⟩⟩⟩⟩⟩⟩⟩⟩
theorem lw_p48 : lw_okq (⟨"ChestnutCornerModel", "roasts", "()V"⟩, 15) := ⟨⟨by decide +kernel, by decide +kernel⟩, List.mem_of_getElem? (i := 873) (by decide +kernel), List.mem_of_getElem? (i := 1112) (by decide +kernel), List.mem_of_getElem? (i := 1113) (by decide +kernel)⟩
theorem lw_p49 : lw_okq (⟨"ChestnutCornerModel", "buys", "(I)V"⟩, 15) := ⟨⟨by decide +kernel, by decide +kernel⟩, List.mem_of_getElem? (i := 873) (by decide +kernel), List.mem_of_getElem? (i := 1116) (by decide +kernel), List.mem_of_getElem? (i := 1117) (by decide +kernel)⟩
theorem lw_p50 : lw_okq (⟨"ChestnutCornerModel", "bought", "(I)I"⟩, 15) := ⟨⟨by decide +kernel, by decide +kernel⟩, List.mem_of_getElem? (i := 873) (by decide +kernel), List.mem_of_getElem? (i := 1120) (by decide +kernel), List.mem_of_getElem? (i := 1121) (by decide +kernel)⟩
theorem lw_p51 : lw_okq (⟨"ChestnutCornerModel", "saves", "()V"⟩, 15) := ⟨⟨by decide +kernel, by decide +kernel⟩, List.mem_of_getElem? (i := 873) (by decide +kernel), List.mem_of_getElem? (i := 1137) (by decide +kernel), List.mem_of_getElem? (i := 1138) (by decide +kernel)⟩
theorem lw_p52 : lw_okq (⟨"ChestnutCornerModel", "doneSet", "()I"⟩, 15) := ⟨⟨by decide +kernel, by decide +kernel⟩, List.mem_of_getElem? (i := 873) (by decide +kernel), List.mem_of_getElem? (i := 1141) (by decide +kernel), List.mem_of_getElem? (i := 1142) (by decide +kernel)⟩
theorem lw_p53 : lw_okq (⟨"ChestnutCornerModel", "bagsLeft", "()I"⟩, 15) := ⟨⟨by decide +kernel, by decide +kernel⟩, List.mem_of_getElem? (i := 873) (by decide +kernel), List.mem_of_getElem? (i := 1145) (by decide +kernel), List.mem_of_getElem? (i := 1146) (by decide +kernel)⟩
theorem lw_p54 : lw_okq (⟨"ChestnutCornerModel", "putsBack", "()V"⟩, 15) := ⟨⟨by decide +kernel, by decide +kernel⟩, List.mem_of_getElem? (i := 873) (by decide +kernel), List.mem_of_getElem? (i := 1149) (by decide +kernel), List.mem_of_getElem? (i := 1150) (by decide +kernel)⟩
theorem lw_p55 : lw_okq (⟨"ChestnutCornerModel", "doneFrom", "(IZ)I"⟩, 15) := ⟨⟨by decide +kernel, by decide +kernel⟩, List.mem_of_getElem? (i := 873) (by decide +kernel), List.mem_of_getElem? (i := 1157) (by decide +kernel), List.mem_of_getElem? (i := 1158) (by decide +kernel)⟩
theorem lw_p56 : lw_okq (⟨"ChestnutCornerModel", "doneIn", "(IZ)I"⟩, 15) := ⟨⟨by decide +kernel, by decide +kernel⟩, List.mem_of_getElem? (i := 873) (by decide +kernel), List.mem_of_getElem? (i := 1161) (by decide +kernel), List.mem_of_getElem? (i := 1162) (by decide +kernel)⟩
theorem lw_p57 : lw_okq (⟨"ChestnutCornerModel", "isRoasting", "(I)Z"⟩, 15) := ⟨⟨by decide +kernel, by decide +kernel⟩, List.mem_of_getElem? (i := 873) (by decide +kernel), List.mem_of_getElem? (i := 1181) (by decide +kernel), List.mem_of_getElem? (i := 1182) (by decide +kernel)⟩
theorem lw_p58 : lw_okq (⟨"ChestnutCornerModel", "coinIn", "(I)I"⟩, 15) := ⟨⟨by decide +kernel, by decide +kernel⟩, List.mem_of_getElem? (i := 873) (by decide +kernel), List.mem_of_getElem? (i := 1185) (by decide +kernel), List.mem_of_getElem? (i := 1186) (by decide +kernel)⟩
theorem lw_p59 : lw_okq (⟨"ChestnutCornerModel", "bringsIn", "(II)I"⟩, 15) := ⟨⟨by decide +kernel, by decide +kernel⟩, List.mem_of_getElem? (i := 873) (by decide +kernel), List.mem_of_getElem? (i := 1218) (by decide +kernel), List.mem_of_getElem? (i := 1219) (by decide +kernel)⟩
theorem lw_p60 : lw_okq (⟨"ChestnutCornerModel", "draw", "()I"⟩, 15) := ⟨⟨by decide +kernel, by decide +kernel⟩, List.mem_of_getElem? (i := 873) (by decide +kernel), List.mem_of_getElem? (i := 1235) (by decide +kernel), List.mem_of_getElem? (i := 1236) (by decide +kernel)⟩
theorem lw_p61 : lw_okq (⟨"ChestnutCornerModel", "token", "()V"⟩, 15) := ⟨⟨by decide +kernel, by decide +kernel⟩, List.mem_of_getElem? (i := 873) (by decide +kernel), List.mem_of_getElem? (i := 1256) (by decide +kernel), List.mem_of_getElem? (i := 1257) (by decide +kernel)⟩
theorem lw_p62 : lw_okq (⟨"ChestnutCornerModel", "byteAt", "(I)I"⟩, 15) := ⟨⟨by decide +kernel, by decide +kernel⟩, List.mem_of_getElem? (i := 873) (by decide +kernel), List.mem_of_getElem? (i := 1260) (by decide +kernel), List.mem_of_getElem? (i := 1261) (by decide +kernel)⟩
theorem lw_p63 : lw_okq (⟨"ChestnutCornerModel", "item", "()V"⟩, 15) := ⟨⟨by decide +kernel, by decide +kernel⟩, List.mem_of_getElem? (i := 873) (by decide +kernel), List.mem_of_getElem? (i := 1274) (by decide +kernel), List.mem_of_getElem? (i := 1275) (by decide +kernel)⟩
def lw_privs_4 : List (MethodName × Nat) := [(⟨"ChestnutCornerModel", "roasts", "()V"⟩, 15), (⟨"ChestnutCornerModel", "buys", "(I)V"⟩, 15), (⟨"ChestnutCornerModel", "bought", "(I)I"⟩, 15), (⟨"ChestnutCornerModel", "saves", "()V"⟩, 15), (⟨"ChestnutCornerModel", "doneSet", "()I"⟩, 15), (⟨"ChestnutCornerModel", "bagsLeft", "()I"⟩, 15), (⟨"ChestnutCornerModel", "putsBack", "()V"⟩, 15), (⟨"ChestnutCornerModel", "doneFrom", "(IZ)I"⟩, 15), (⟨"ChestnutCornerModel", "doneIn", "(IZ)I"⟩, 15), (⟨"ChestnutCornerModel", "isRoasting", "(I)Z"⟩, 15), (⟨"ChestnutCornerModel", "coinIn", "(I)I"⟩, 15), (⟨"ChestnutCornerModel", "bringsIn", "(II)I"⟩, 15), (⟨"ChestnutCornerModel", "draw", "()I"⟩, 15), (⟨"ChestnutCornerModel", "token", "()V"⟩, 15), (⟨"ChestnutCornerModel", "byteAt", "(I)I"⟩, 15), (⟨"ChestnutCornerModel", "item", "()V"⟩, 15)]
theorem lw_r4 : ∀ q ∈ lw_privs_4, lw_okq q := List.forall_mem_cons.mpr ⟨lw_p48, List.forall_mem_cons.mpr ⟨lw_p49, List.forall_mem_cons.mpr ⟨lw_p50, List.forall_mem_cons.mpr ⟨lw_p51, List.forall_mem_cons.mpr ⟨lw_p52, List.forall_mem_cons.mpr ⟨lw_p53, List.forall_mem_cons.mpr ⟨lw_p54, List.forall_mem_cons.mpr ⟨lw_p55, List.forall_mem_cons.mpr ⟨lw_p56, List.forall_mem_cons.mpr ⟨lw_p57, List.forall_mem_cons.mpr ⟨lw_p58, List.forall_mem_cons.mpr ⟨lw_p59, List.forall_mem_cons.mpr ⟨lw_p60, List.forall_mem_cons.mpr ⟨lw_p61, List.forall_mem_cons.mpr ⟨lw_p62, List.forall_mem_cons.mpr ⟨lw_p63, fun _ h => absurd h List.not_mem_nil⟩⟩⟩⟩⟩⟩⟩⟩⟩⟩⟩⟩⟩⟩⟩⟩
theorem lw_p64 : lw_okq (⟨"ChestnutCornerModel", "kindHere", "()I"⟩, 15) := ⟨⟨by decide +kernel, by decide +kernel⟩, List.mem_of_getElem? (i := 873) (by decide +kernel), List.mem_of_getElem? (i := 1278) (by decide +kernel), List.mem_of_getElem? (i := 1279) (by decide +kernel)⟩
theorem lw_p65 : lw_okq (⟨"ChestnutCornerModel", "word", "()J"⟩, 15) := ⟨⟨by decide +kernel, by decide +kernel⟩, List.mem_of_getElem? (i := 873) (by decide +kernel), List.mem_of_getElem? (i := 1282) (by decide +kernel), List.mem_of_getElem? (i := 1283) (by decide +kernel)⟩
theorem lw_p66 : lw_okq (⟨"ChestnutCornerModel", "batchItem", "(I)V"⟩, 15) := ⟨⟨by decide +kernel, by decide +kernel⟩, List.mem_of_getElem? (i := 873) (by decide +kernel), List.mem_of_getElem? (i := 1295) (by decide +kernel), List.mem_of_getElem? (i := 1296) (by decide +kernel)⟩
theorem lw_p67 : lw_okq (⟨"ChestnutCornerModel", "needs", "(Z)V"⟩, 15) := ⟨⟨by decide +kernel, by decide +kernel⟩, List.mem_of_getElem? (i := 873) (by decide +kernel), List.mem_of_getElem? (i := 1299) (by decide +kernel), List.mem_of_getElem? (i := 1300) (by decide +kernel)⟩
theorem lw_p68 : lw_okq (⟨"ChestnutCornerModel", "perhaps", "(ZII)I"⟩, 15) := ⟨⟨by decide +kernel, by decide +kernel⟩, List.mem_of_getElem? (i := 873) (by decide +kernel), List.mem_of_getElem? (i := 1304) (by decide +kernel), List.mem_of_getElem? (i := 1305) (by decide +kernel)⟩
theorem lw_p69 : lw_okq (⟨"ChestnutCornerModel", "number", "(II)V"⟩, 15) := ⟨⟨by decide +kernel, by decide +kernel⟩, List.mem_of_getElem? (i := 873) (by decide +kernel), List.mem_of_getElem? (i := 1308) (by decide +kernel), List.mem_of_getElem? (i := 1309) (by decide +kernel)⟩
theorem lw_p70 : lw_okq (⟨"ChestnutCornerModel", "placeHere", "()I"⟩, 15) := ⟨⟨by decide +kernel, by decide +kernel⟩, List.mem_of_getElem? (i := 873) (by decide +kernel), List.mem_of_getElem? (i := 1312) (by decide +kernel), List.mem_of_getElem? (i := 1313) (by decide +kernel)⟩
theorem lw_p71 : lw_okq (⟨"ChestnutCornerModel", "crowdItem", "()V"⟩, 15) := ⟨⟨by decide +kernel, by decide +kernel⟩, List.mem_of_getElem? (i := 873) (by decide +kernel), List.mem_of_getElem? (i := 1320) (by decide +kernel), List.mem_of_getElem? (i := 1321) (by decide +kernel)⟩
theorem lw_p72 : lw_okq (⟨"ChestnutCornerModel", "ruleItem", "(II)V"⟩, 15) := ⟨⟨by decide +kernel, by decide +kernel⟩, List.mem_of_getElem? (i := 873) (by decide +kernel), List.mem_of_getElem? (i := 1327) (by decide +kernel), List.mem_of_getElem? (i := 1328) (by decide +kernel)⟩
theorem lw_p73 : lw_okq (⟨"ChestnutCornerModel", "wrong", "(I)I"⟩, 15) := ⟨⟨by decide +kernel, by decide +kernel⟩, List.mem_of_getElem? (i := 873) (by decide +kernel), List.mem_of_getElem? (i := 1355) (by decide +kernel), List.mem_of_getElem? (i := 1356) (by decide +kernel)⟩
theorem lw_p74 : lw_okq (⟨"ChestnutCornerModel", "bagsOfAll", "()I"⟩, 15) := ⟨⟨by decide +kernel, by decide +kernel⟩, List.mem_of_getElem? (i := 873) (by decide +kernel), List.mem_of_getElem? (i := 1390) (by decide +kernel), List.mem_of_getElem? (i := 1391) (by decide +kernel)⟩
theorem lw_p75 : lw_okq (⟨"ChestnutCornerModel", "peopleOfAll", "()I"⟩, 15) := ⟨⟨by decide +kernel, by decide +kernel⟩, List.mem_of_getElem? (i := 873) (by decide +kernel), List.mem_of_getElem? (i := 1394) (by decide +kernel), List.mem_of_getElem? (i := 1395) (by decide +kernel)⟩
theorem lw_p76 : lw_okq (⟨"ChestnutCornerModel", "held", "()I"⟩, 15) := ⟨⟨by decide +kernel, by decide +kernel⟩, List.mem_of_getElem? (i := 873) (by decide +kernel), List.mem_of_getElem? (i := 1398) (by decide +kernel), List.mem_of_getElem? (i := 1399) (by decide +kernel)⟩
def lw_privs_5 : List (MethodName × Nat) := [(⟨"ChestnutCornerModel", "kindHere", "()I"⟩, 15), (⟨"ChestnutCornerModel", "word", "()J"⟩, 15), (⟨"ChestnutCornerModel", "batchItem", "(I)V"⟩, 15), (⟨"ChestnutCornerModel", "needs", "(Z)V"⟩, 15), (⟨"ChestnutCornerModel", "perhaps", "(ZII)I"⟩, 15), (⟨"ChestnutCornerModel", "number", "(II)V"⟩, 15), (⟨"ChestnutCornerModel", "placeHere", "()I"⟩, 15), (⟨"ChestnutCornerModel", "crowdItem", "()V"⟩, 15), (⟨"ChestnutCornerModel", "ruleItem", "(II)V"⟩, 15), (⟨"ChestnutCornerModel", "wrong", "(I)I"⟩, 15), (⟨"ChestnutCornerModel", "bagsOfAll", "()I"⟩, 15), (⟨"ChestnutCornerModel", "peopleOfAll", "()I"⟩, 15), (⟨"ChestnutCornerModel", "held", "()I"⟩, 15)]
theorem lw_r5 : ∀ q ∈ lw_privs_5, lw_okq q := List.forall_mem_cons.mpr ⟨lw_p64, List.forall_mem_cons.mpr ⟨lw_p65, List.forall_mem_cons.mpr ⟨lw_p66, List.forall_mem_cons.mpr ⟨lw_p67, List.forall_mem_cons.mpr ⟨lw_p68, List.forall_mem_cons.mpr ⟨lw_p69, List.forall_mem_cons.mpr ⟨lw_p70, List.forall_mem_cons.mpr ⟨lw_p71, List.forall_mem_cons.mpr ⟨lw_p72, List.forall_mem_cons.mpr ⟨lw_p73, List.forall_mem_cons.mpr ⟨lw_p74, List.forall_mem_cons.mpr ⟨lw_p75, List.forall_mem_cons.mpr ⟨lw_p76, fun _ h => absurd h List.not_mem_nil⟩⟩⟩⟩⟩⟩⟩⟩⟩⟩⟩⟩⟩
def lw_privs : List (MethodName × Nat) := lw_privs_1 ++ (lw_privs_2 ++ (lw_privs_3 ++ (lw_privs_4 ++ (lw_privs_5))))
def lw_tbl : List Cond := k2_sels lw_privs ++ tables_1
theorem lw_privs_ok : ∀ q ∈ lw_privs, lw_okq q := by
  show ∀ q ∈ lw_privs_1 ++ (lw_privs_2 ++ (lw_privs_3 ++ (lw_privs_4 ++ (lw_privs_5)))), lw_okq q
  exact List.forall_mem_append.mpr ⟨lw_r1, List.forall_mem_append.mpr ⟨lw_r2, List.forall_mem_append.mpr ⟨lw_r3, List.forall_mem_append.mpr ⟨lw_r4, lw_r5⟩⟩⟩⟩
-- ===== end of PART A; then your names; then what follows =====
end
section
/-! names, field tables, decode rows: printed by the kit (NAMES.whole.lean.txt), the lists of words and the pools left out -/
/-! ===== BEGIN printed: names, fields, word lists, decode rows ===== -/
def RX0 : String := "ChestnutCorner$Choice"
def TX0 : u_T := fun k => match k with
  | 0 => ("ChestnutCorner$Choice", "best", "I", false)
  | _ => ("ChestnutCorner$Choice", "most", "I", false)
def tyX0 : Nat → FieldType := fun k => match k with
  | 0 => .int
  | _ => .int
abbrev wsX00 : List Cond := u_ws RX0 TX0 2
theorem nmX0 : ∀ a, a < 2 → ∀ b, b < 2 → a ≠ b → (TX0 a).2.1 ≠ (TX0 b).2.1 := by decide +kernel
theorem tyX0_ok : ∀ k, k < 2 → parseFieldDescriptor (TX0 k).2.2.1 = some (tyX0 k) := by decide +kernel
abbrev cX0_init : ByteArray := prog_2_method_1_code
def yX0_init : MethodName := ⟨RX0, "<init>", "()V"⟩
abbrev cX0_clear : ByteArray := prog_2_method_2_code
def yX0_clear : MethodName := ⟨RX0, "clear", "()V"⟩
abbrev cX0_offer : ByteArray := prog_2_method_3_code
def yX0_offer : MethodName := ⟨RX0, "offer", "(II)V"⟩
def RX1 : String := "ChestnutCorner$Crowds"
def TX1 : u_T := fun k => match k with
  | 0 => ("ChestnutCorner$Crowds", "corner", "[I", true)
  | 1 => ("ChestnutCorner$Crowds", "minute", "[I", true)
  | 2 => ("ChestnutCorner$Crowds", "many", "[I", true)
  | _ => ("ChestnutCorner$Crowds", "count", "I", false)
def tyX1 : Nat → FieldType := fun k => match k with
  | 0 => .array .int
  | 1 => .array .int
  | 2 => .array .int
  | _ => .int
abbrev wsX10 : List Cond := u_ws RX1 TX1 4
theorem nmX1 : ∀ a, a < 4 → ∀ b, b < 4 → a ≠ b → (TX1 a).2.1 ≠ (TX1 b).2.1 := by decide +kernel
theorem tyX1_ok : ∀ k, k < 4 → parseFieldDescriptor (TX1 k).2.2.1 = some (tyX1 k) := by decide +kernel
abbrev cX1_init : ByteArray := prog_3_method_1_code
def yX1_init : MethodName := ⟨RX1, "<init>", "()V"⟩
abbrev cX1_become : ByteArray := prog_3_method_2_code
def yX1_become : MethodName := ⟨RX1, "become", "(LChestnutCorner$Crowds;)V"⟩
abbrev cX1_isFull : ByteArray := prog_3_method_3_code
def yX1_isFull : MethodName := ⟨RX1, "isFull", "()Z"⟩
abbrev cX1_add : ByteArray := prog_3_method_4_code
def yX1_add : MethodName := ⟨RX1, "add", "(III)I"⟩
abbrev cX1_manyOfAll : ByteArray := prog_3_method_5_code
def yX1_manyOfAll : MethodName := ⟨RX1, "manyOfAll", "()I"⟩
def RX2 : String := "ChestnutCorner$Evening"
def TX2 : u_T := fun k => match k with
  | 0 => ("ChestnutCorner$Evening", "nuts", "LChestnutCorner$Nuts;", true)
  | 1 => ("ChestnutCorner$Evening", "crowds", "LChestnutCorner$Crowds;", true)
  | 2 => ("ChestnutCorner$Evening", "due", "[I", true)
  | 3 => ("ChestnutCorner$Evening", "spots", "[I", true)
  | 4 => ("ChestnutCorner$Evening", "heat", "I", false)
  | 5 => ("ChestnutCorner$Evening", "price", "I", false)
  | 6 => ("ChestnutCorner$Evening", "cold", "I", false)
  | 7 => ("ChestnutCorner$Evening", "minute", "I", false)
  | 8 => ("ChestnutCorner$Evening", "coin", "I", false)
  | 9 => ("ChestnutCorner$Evening", "corner", "I", false)
  | 10 => ("ChestnutCorner$Evening", "walks", "I", false)
  | 11 => ("ChestnutCorner$Evening", "sold", "I", false)
  | 12 => ("ChestnutCorner$Evening", "wasted", "I", false)
  | 13 => ("ChestnutCorner$Evening", "lost", "I", false)
  | _ => ("ChestnutCorner$Evening", "z", "I", false)
def tyX2 : Nat → FieldType := fun k => match k with
  | 0 => .object "ChestnutCorner$Nuts"
  | 1 => .object "ChestnutCorner$Crowds"
  | 2 => .array .int
  | 3 => .array .int
  | 4 => .int
  | 5 => .int
  | 6 => .int
  | 7 => .int
  | 8 => .int
  | 9 => .int
  | 10 => .int
  | 11 => .int
  | 12 => .int
  | 13 => .int
  | _ => .int
abbrev wsX20 : List Cond := u_ws RX2 TX2 15
theorem nmX2 : ∀ a, a < 15 → ∀ b, b < 15 → a ≠ b → (TX2 a).2.1 ≠ (TX2 b).2.1 := by decide +kernel
theorem tyX2_ok : ∀ k, k < 15 → parseFieldDescriptor (TX2 k).2.2.1 = some (tyX2 k) := by decide +kernel
abbrev cX2_init : ByteArray := prog_4_method_1_code
def yX2_init : MethodName := ⟨RX2, "<init>", "()V"⟩
abbrev cX2_become : ByteArray := prog_4_method_2_code
def yX2_become : MethodName := ⟨RX2, "become", "(LChestnutCorner$Evening;)V"⟩
abbrev cX2_ruled : ByteArray := prog_4_method_3_code
def yX2_ruled : MethodName := ⟨RX2, "ruled", "(I)I"⟩
abbrev cX2_setRule : ByteArray := prog_4_method_4_code
def yX2_setRule : MethodName := ⟨RX2, "setRule", "(II)V"⟩
abbrev cX2_addShovels : ByteArray := prog_4_method_5_code
def yX2_addShovels : MethodName := ⟨RX2, "addShovels", "(I)V"⟩
abbrev cX2_shovelsDue : ByteArray := prog_4_method_6_code
def yX2_shovelsDue : MethodName := ⟨RX2, "shovelsDue", "()I"⟩
abbrev cX2_setOut : ByteArray := prog_4_method_7_code
def yX2_setOut : MethodName := ⟨RX2, "setOut", "(I)V"⟩
abbrev cX2_coming : ByteArray := prog_4_method_8_code
def yX2_coming : MethodName := ⟨RX2, "coming", "(I)I"⟩
abbrev cX2_draw : ByteArray := prog_4_method_9_code
def yX2_draw : MethodName := ⟨RX2, "draw", "()I"⟩
abbrev cX2_spotsHolding : ByteArray := prog_4_method_10_code
def yX2_spotsHolding : MethodName := ⟨RX2, "spotsHolding", "()I"⟩
abbrev cX2_pass : ByteArray := prog_4_method_11_code
def yX2_pass : MethodName := ⟨RX2, "pass", "(I)I"⟩
abbrev cX2_warm : ByteArray := prog_4_method_12_code
def yX2_warm : MethodName := ⟨RX2, "warm", "()V"⟩
abbrev cX2_serve : ByteArray := prog_4_method_13_code
def yX2_serve : MethodName := ⟨RX2, "serve", "()V"⟩
abbrev cX2_sell : ByteArray := prog_4_method_14_code
def yX2_sell : MethodName := ⟨RX2, "sell", "(IIII)I"⟩
def RX3 : String := "ChestnutCorner$Kinds"
def TX3 : u_T := fun k => match k with
  | _ => ("", "", "", false)
def tyX3 : Nat → FieldType := fun k => match k with
  | _ => .int
abbrev wsX30 : List Cond := u_ws RX3 TX3 0
theorem nmX3 : ∀ a, a < 0 → ∀ b, b < 0 → a ≠ b → (TX3 a).2.1 ≠ (TX3 b).2.1 := by decide +kernel
theorem tyX3_ok : ∀ k, k < 0 → parseFieldDescriptor (TX3 k).2.2.1 = some (tyX3 k) := by decide +kernel
abbrev cX3_above : ByteArray := prog_5_method_2_code
def yX3_above : MethodName := ⟨RX3, "above", "(I)I"⟩
abbrev cX3_isUnder : ByteArray := prog_5_method_3_code
def yX3_isUnder : MethodName := ⟨RX3, "isUnder", "(II)Z"⟩
abbrev cX3_heatsOf : ByteArray := prog_5_method_4_code
def yX3_heatsOf : MethodName := ⟨RX3, "heatsOf", "(II)I"⟩
abbrev cX3_readyFrom : ByteArray := prog_5_method_5_code
def yX3_readyFrom : MethodName := ⟨RX3, "readyFrom", "(I)I"⟩
abbrev cX3_burntFrom : ByteArray := prog_5_method_6_code
def yX3_burntFrom : MethodName := ⟨RX3, "burntFrom", "(I)I"⟩
abbrev cX3_bursts : ByteArray := prog_5_method_7_code
def yX3_bursts : MethodName := ⟨RX3, "bursts", "(III)Z"⟩
abbrev cX3_worthOf : ByteArray := prog_5_method_8_code
def yX3_worthOf : MethodName := ⟨RX3, "worthOf", "(II)I"⟩
def RX4 : String := "ChestnutCorner$Nuts"
def TX4 : u_T := fun k => match k with
  | 0 => ("ChestnutCorner$Nuts", "kind", "[I", true)
  | 1 => ("ChestnutCorner$Nuts", "bags", "[I", true)
  | 2 => ("ChestnutCorner$Nuts", "roast", "[I", true)
  | 3 => ("ChestnutCorner$Nuts", "age", "[I", true)
  | 4 => ("ChestnutCorner$Nuts", "place", "[I", true)
  | _ => ("ChestnutCorner$Nuts", "count", "I", false)
def tyX4 : Nat → FieldType := fun k => match k with
  | 0 => .array .int
  | 1 => .array .int
  | 2 => .array .int
  | 3 => .array .int
  | 4 => .array .int
  | _ => .int
abbrev wsX40 : List Cond := u_ws RX4 TX4 6
theorem nmX4 : ∀ a, a < 6 → ∀ b, b < 6 → a ≠ b → (TX4 a).2.1 ≠ (TX4 b).2.1 := by decide +kernel
theorem tyX4_ok : ∀ k, k < 6 → parseFieldDescriptor (TX4 k).2.2.1 = some (tyX4 k) := by decide +kernel
abbrev cX4_init : ByteArray := prog_6_method_1_code
def yX4_init : MethodName := ⟨RX4, "<init>", "()V"⟩
abbrev cX4_become : ByteArray := prog_6_method_2_code
def yX4_become : MethodName := ⟨RX4, "become", "(LChestnutCorner$Nuts;)V"⟩
abbrev cX4_isFull : ByteArray := prog_6_method_3_code
def yX4_isFull : MethodName := ⟨RX4, "isFull", "()Z"⟩
abbrev cX4_add : ByteArray := prog_6_method_4_code
def yX4_add : MethodName := ⟨RX4, "add", "(I)I"⟩
abbrev cX4_isGone : ByteArray := prog_6_method_5_code
def yX4_isGone : MethodName := ⟨RX4, "isGone", "(I)Z"⟩
abbrev cX4_isOverFire : ByteArray := prog_6_method_6_code
def yX4_isOverFire : MethodName := ⟨RX4, "isOverFire", "(I)Z"⟩
abbrev cX4_isReady : ByteArray := prog_6_method_7_code
def yX4_isReady : MethodName := ⟨RX4, "isReady", "(I)Z"⟩
abbrev cX4_isBurnt : ByteArray := prog_6_method_8_code
def yX4_isBurnt : MethodName := ⟨RX4, "isBurnt", "(I)Z"⟩
abbrev cX4_hasRoom : ByteArray := prog_6_method_9_code
def yX4_hasRoom : MethodName := ⟨RX4, "hasRoom", "(I)Z"⟩
abbrev cX4_lay : ByteArray := prog_6_method_10_code
def yX4_lay : MethodName := ⟨RX4, "lay", "(II)I"⟩
abbrev cX4_roastAll : ByteArray := prog_6_method_11_code
def yX4_roastAll : MethodName := ⟨RX4, "roastAll", "(I)I"⟩
abbrev cX4_roastBy : ByteArray := prog_6_method_12_code
def yX4_roastBy : MethodName := ⟨RX4, "roastBy", "(II)V"⟩
abbrev cX4_ageHeap : ByteArray := prog_6_method_13_code
def yX4_ageHeap : MethodName := ⟨RX4, "ageHeap", "()V"⟩
abbrev cX4_youngest : ByteArray := prog_6_method_14_code
def yX4_youngest : MethodName := ⟨RX4, "youngest", "(II)I"⟩
abbrev cX4_setAt : ByteArray := prog_6_method_15_code
def yX4_setAt : MethodName := ⟨RX4, "setAt", "(I)I"⟩
abbrev cX4_setDoneOverFire : ByteArray := prog_6_method_16_code
def yX4_setDoneOverFire : MethodName := ⟨RX4, "setDoneOverFire", "()I"⟩
abbrev cX4_bagsNotGone : ByteArray := prog_6_method_17_code
def yX4_bagsNotGone : MethodName := ⟨RX4, "bagsNotGone", "()I"⟩
abbrev cX4_bagsOfAll : ByteArray := prog_6_method_18_code
def yX4_bagsOfAll : MethodName := ⟨RX4, "bagsOfAll", "()I"⟩
def RX5 : String := "ChestnutCorner$Sheets"
def TX5 : u_T := fun k => match k with
  | 0 => ("ChestnutCorner$Sheets", "bits", "[I", true)
  | 1 => ("ChestnutCorner$Sheets", "size", "[I", true)
  | _ => ("ChestnutCorner$Sheets", "numbers", "[I", true)
def tyX5 : Nat → FieldType := fun k => match k with
  | 0 => .array .int
  | 1 => .array .int
  | _ => .array .int
abbrev wsX50 : List Cond := u_ws RX5 TX5 3
theorem nmX5 : ∀ a, a < 3 → ∀ b, b < 3 → a ≠ b → (TX5 a).2.1 ≠ (TX5 b).2.1 := by decide +kernel
theorem tyX5_ok : ∀ k, k < 3 → parseFieldDescriptor (TX5 k).2.2.1 = some (tyX5 k) := by decide +kernel
abbrev cX5_init : ByteArray := prog_7_method_1_code
def yX5_init : MethodName := ⟨RX5, "<init>", "()V"⟩
abbrev cX5_isSheet : ByteArray := prog_7_method_2_code
def yX5_isSheet : MethodName := ⟨RX5, "isSheet", "(I)Z"⟩
abbrev cX5_isMissing : ByteArray := prog_7_method_3_code
def yX5_isMissing : MethodName := ⟨RX5, "isMissing", "(I)Z"⟩
abbrev cX5_lay : ByteArray := prog_7_method_4_code
def yX5_lay : MethodName := ⟨RX5, "lay", "(III)V"⟩
abbrev cX5_hasNumbers : ByteArray := prog_7_method_5_code
def yX5_hasNumbers : MethodName := ⟨RX5, "hasNumbers", "(III)Z"⟩
abbrev cX5_numberAt : ByteArray := prog_7_method_6_code
def yX5_numberAt : MethodName := ⟨RX5, "numberAt", "(II)I"⟩
abbrev cX5_setNumber : ByteArray := prog_7_method_7_code
def yX5_setNumber : MethodName := ⟨RX5, "setNumber", "(III)V"⟩
abbrev cX5_move : ByteArray := prog_7_method_8_code
def yX5_move : MethodName := ⟨RX5, "move", "(IIIII)V"⟩
def RX6 : String := "ChestnutCorner$Tape"
def TX6 : u_T := fun k => match k with
  | 0 => ("ChestnutCorner$Tape", "bytes", "[I", true)
  | 1 => ("ChestnutCorner$Tape", "length", "I", false)
  | 2 => ("ChestnutCorner$Tape", "start", "I", false)
  | 3 => ("ChestnutCorner$Tape", "behind", "I", false)
  | 4 => ("ChestnutCorner$Tape", "type", "I", false)
  | _ => ("ChestnutCorner$Tape", "value", "I", false)
def tyX6 : Nat → FieldType := fun k => match k with
  | 0 => .array .int
  | 1 => .int
  | 2 => .int
  | 3 => .int
  | 4 => .int
  | _ => .int
abbrev wsX60 : List Cond := u_ws RX6 TX6 6
theorem nmX6 : ∀ a, a < 6 → ∀ b, b < 6 → a ≠ b → (TX6 a).2.1 ≠ (TX6 b).2.1 := by decide +kernel
theorem tyX6_ok : ∀ k, k < 6 → parseFieldDescriptor (TX6 k).2.2.1 = some (tyX6 k) := by decide +kernel
abbrev cX6_init : ByteArray := prog_8_method_1_code
def yX6_init : MethodName := ⟨RX6, "<init>", "()V"⟩
abbrev cX6_hasRoom : ByteArray := prog_8_method_2_code
def yX6_hasRoom : MethodName := ⟨RX6, "hasRoom", "(I)Z"⟩
abbrev cX6_append : ByteArray := prog_8_method_3_code
def yX6_append : MethodName := ⟨RX6, "append", "(II)V"⟩
abbrev cX6_rewind : ByteArray := prog_8_method_4_code
def yX6_rewind : MethodName := ⟨RX6, "rewind", "()V"⟩
abbrev cX6_step : ByteArray := prog_8_method_5_code
def yX6_step : MethodName := ⟨RX6, "step", "()V"⟩
abbrev cX6_readWord : ByteArray := prog_8_method_6_code
def yX6_readWord : MethodName := ⟨RX6, "readWord", "()V"⟩
abbrev cX6_readNumber : ByteArray := prog_8_method_7_code
def yX6_readNumber : MethodName := ⟨RX6, "readNumber", "()V"⟩
abbrev cX6_isLetter : ByteArray := prog_8_method_8_code
def yX6_isLetter : MethodName := ⟨RX6, "isLetter", "(I)Z"⟩
abbrev cX6_isDigit : ByteArray := prog_8_method_9_code
def yX6_isDigit : MethodName := ⟨RX6, "isDigit", "(I)Z"⟩
abbrev cX6_isWord : ByteArray := prog_8_method_10_code
def yX6_isWord : MethodName := ⟨RX6, "isWord", "(Ljava/lang/String;)Z"⟩
def RX7 : String := "ChestnutCorner$TextReader"
def TX7 : u_T := fun k => match k with
  | 0 => ("ChestnutCorner$TextReader", "tape", "LChestnutCorner$Tape;", true)
  | _ => ("ChestnutCorner$TextReader", "evening", "LChestnutCorner$Evening;", true)
def tyX7 : Nat → FieldType := fun k => match k with
  | 0 => .object "ChestnutCorner$Tape"
  | _ => .object "ChestnutCorner$Evening"
abbrev wsX70 : List Cond := u_ws RX7 TX7 2
theorem nmX7 : ∀ a, a < 2 → ∀ b, b < 2 → a ≠ b → (TX7 a).2.1 ≠ (TX7 b).2.1 := by decide +kernel
theorem tyX7_ok : ∀ k, k < 2 → parseFieldDescriptor (TX7 k).2.2.1 = some (tyX7 k) := by decide +kernel
abbrev cX7_init : ByteArray := prog_9_method_1_code
def yX7_init : MethodName := ⟨RX7, "<init>", "(LChestnutCorner$Tape;LChestnutCorner$Evening;)V"⟩
abbrev cX7_readText : ByteArray := prog_9_method_2_code
def yX7_readText : MethodName := ⟨RX7, "readText", "()I"⟩
abbrev cX7_readItem : ByteArray := prog_9_method_3_code
def yX7_readItem : MethodName := ⟨RX7, "readItem", "()Z"⟩
abbrev cX7_readBatch : ByteArray := prog_9_method_4_code
def yX7_readBatch : MethodName := ⟨RX7, "readBatch", "()Z"⟩
abbrev cX7_readCrowd : ByteArray := prog_9_method_5_code
def yX7_readCrowd : MethodName := ⟨RX7, "readCrowd", "()Z"⟩
abbrev cX7_readRule : ByteArray := prog_9_method_6_code
def yX7_readRule : MethodName := ⟨RX7, "readRule", "(I)Z"⟩
abbrev cX7_readNumberBehind : ByteArray := prog_9_method_7_code
def yX7_readNumberBehind : MethodName := ⟨RX7, "readNumberBehind", "(I)I"⟩
abbrev cX7_kindTold : ByteArray := prog_9_method_8_code
def yX7_kindTold : MethodName := ⟨RX7, "kindTold", "()I"⟩
abbrev cX7_placeTold : ByteArray := prog_9_method_9_code
def yX7_placeTold : MethodName := ⟨RX7, "placeTold", "()I"⟩
def RX8 : String := "ChestnutCorner"
def TX8 : u_T := fun k => match k with
  | 0 => ("ChestnutCorner", "evening", "LChestnutCorner$Evening;", true)
  | 1 => ("ChestnutCorner", "kept", "LChestnutCorner$Evening;", true)
  | 2 => ("ChestnutCorner", "trial", "LChestnutCorner$Evening;", true)
  | 3 => ("ChestnutCorner", "waiting", "LChestnutCorner$Evening;", true)
  | 4 => ("ChestnutCorner", "choice", "LChestnutCorner$Choice;", true)
  | 5 => ("ChestnutCorner", "tape", "LChestnutCorner$Tape;", true)
  | 6 => ("ChestnutCorner", "reader", "LChestnutCorner$TextReader;", true)
  | 7 => ("ChestnutCorner", "sheets", "LChestnutCorner$Sheets;", true)
  | 8 => ("ChestnutCorner", "findings", "[I", true)
  | _ => ("ChestnutCorner", "isKept", "Z", false)
def tyX8 : Nat → FieldType := fun k => match k with
  | 0 => .object "ChestnutCorner$Evening"
  | 1 => .object "ChestnutCorner$Evening"
  | 2 => .object "ChestnutCorner$Evening"
  | 3 => .object "ChestnutCorner$Evening"
  | 4 => .object "ChestnutCorner$Choice"
  | 5 => .object "ChestnutCorner$Tape"
  | 6 => .object "ChestnutCorner$TextReader"
  | 7 => .object "ChestnutCorner$Sheets"
  | 8 => .array .int
  | _ => .boolean
abbrev wsX80 : List Cond := u_ws RX8 TX8 10
theorem nmX8 : ∀ a, a < 10 → ∀ b, b < 10 → a ≠ b → (TX8 a).2.1 ≠ (TX8 b).2.1 := by decide +kernel
theorem tyX8_ok : ∀ k, k < 10 → parseFieldDescriptor (TX8 k).2.2.1 = some (tyX8 k) := by decide +kernel
abbrev cX8_init : ByteArray := prog_1_method_1_code
def yX8_init : MethodName := ⟨RX8, "<init>", "()V"⟩
abbrev cX8_batch : ByteArray := prog_1_method_2_code
def yX8_batch : MethodName := ⟨RX8, "batch", "(I)I"⟩
abbrev cX8_of : ByteArray := prog_1_method_3_code
def yX8_of : MethodName := ⟨RX8, "of", "(II)I"⟩
abbrev cX8_change : ByteArray := prog_1_method_4_code
def yX8_change : MethodName := ⟨RX8, "change", "(III)I"⟩
abbrev cX8_put : ByteArray := prog_1_method_5_code
def yX8_put : MethodName := ⟨RX8, "put", "(II)I"⟩
abbrev cX8_heats : ByteArray := prog_1_method_6_code
def yX8_heats : MethodName := ⟨RX8, "heats", "(II)I"⟩
abbrev cX8_how : ByteArray := prog_1_method_7_code
def yX8_how : MethodName := ⟨RX8, "how", "(I)I"⟩
abbrev cX8_shovel : ByteArray := prog_1_method_8_code
def yX8_shovel : MethodName := ⟨RX8, "shovel", "(I)I"⟩
abbrev cX8_rule : ByteArray := prog_1_method_9_code
def yX8_rule : MethodName := ⟨RX8, "rule", "(II)I"⟩
abbrev cX8_walk : ByteArray := prog_1_method_10_code
def yX8_walk : MethodName := ⟨RX8, "walk", "(I)I"⟩
abbrev cX8_crowd : ByteArray := prog_1_method_11_code
def yX8_crowd : MethodName := ⟨RX8, "crowd", "(III)I"⟩
abbrev cX8_crowdOf : ByteArray := prog_1_method_12_code
def yX8_crowdOf : MethodName := ⟨RX8, "crowdOf", "(II)I"⟩
abbrev cX8_late : ByteArray := prog_1_method_13_code
def yX8_late : MethodName := ⟨RX8, "late", "(III)I"⟩
abbrev cX8_minutes : ByteArray := prog_1_method_14_code
def yX8_minutes : MethodName := ⟨RX8, "minutes", "(I)I"⟩
abbrev cX8_now : ByteArray := prog_1_method_15_code
def yX8_now : MethodName := ⟨RX8, "now", "(I)I"⟩
abbrev cX8_at : ByteArray := prog_1_method_16_code
def yX8_at : MethodName := ⟨RX8, "at", "(I)I"⟩
abbrev cX8_ahead : ByteArray := prog_1_method_17_code
def yX8_ahead : MethodName := ⟨RX8, "ahead", "(II)I"⟩
abbrev cX8_ready : ByteArray := prog_1_method_18_code
def yX8_ready : MethodName := ⟨RX8, "ready", "(I)I"⟩
abbrev cX8_burnt : ByteArray := prog_1_method_19_code
def yX8_burnt : MethodName := ⟨RX8, "burnt", "(I)I"⟩
abbrev cX8_putOn : ByteArray := prog_1_method_20_code
def yX8_putOn : MethodName := ⟨RX8, "putOn", "(II)I"⟩
abbrev cX8_takeOff : ByteArray := prog_1_method_21_code
def yX8_takeOff : MethodName := ⟨RX8, "takeOff", "(II)I"⟩
abbrev cX8_shovels : ByteArray := prog_1_method_22_code
def yX8_shovels : MethodName := ⟨RX8, "shovels", "(I)I"⟩
abbrev cX8_corner : ByteArray := prog_1_method_23_code
def yX8_corner : MethodName := ⟨RX8, "corner", "(I)I"⟩
abbrev cX8_two : ByteArray := prog_1_method_24_code
def yX8_two : MethodName := ⟨RX8, "two", "(II)I"⟩
abbrev cX8_price : ByteArray := prog_1_method_25_code
def yX8_price : MethodName := ⟨RX8, "price", "(I)I"⟩
abbrev cX8_kindFor : ByteArray := prog_1_method_26_code
def yX8_kindFor : MethodName := ⟨RX8, "kindFor", "(II)I"⟩
abbrev cX8_heatFor : ByteArray := prog_1_method_27_code
def yX8_heatFor : MethodName := ⟨RX8, "heatFor", "(II)I"⟩
abbrev cX8_brings : ByteArray := prog_1_method_28_code
def yX8_brings : MethodName := ⟨RX8, "brings", "(II)I"⟩
abbrev cX8_best : ByteArray := prog_1_method_29_code
def yX8_best : MethodName := ⟨RX8, "best", "(I)I"⟩
abbrev cX8_left : ByteArray := prog_1_method_30_code
def yX8_left : MethodName := ⟨RX8, "left", "(I)I"⟩
abbrev cX8_boys : ByteArray := prog_1_method_31_code
def yX8_boys : MethodName := ⟨RX8, "boys", "(I)I"⟩
abbrev cX8_seed : ByteArray := prog_1_method_32_code
def yX8_seed : MethodName := ⟨RX8, "seed", "(I)I"⟩
abbrev cX8_feed : ByteArray := prog_1_method_33_code
def yX8_feed : MethodName := ⟨RX8, "feed", "(II)I"⟩
abbrev cX8_wipe : ByteArray := prog_1_method_34_code
def yX8_wipe : MethodName := ⟨RX8, "wipe", "()I"⟩
abbrev cX8_text : ByteArray := prog_1_method_35_code
def yX8_text : MethodName := ⟨RX8, "text", "()I"⟩
abbrev cX8_hold : ByteArray := prog_1_method_36_code
def yX8_hold : MethodName := ⟨RX8, "hold", "(II)I"⟩
abbrev cX8_as : ByteArray := prog_1_method_37_code
def yX8_as : MethodName := ⟨RX8, "as", "(II)I"⟩
abbrev cX8_sheet : ByteArray := prog_1_method_38_code
def yX8_sheet : MethodName := ⟨RX8, "sheet", "(III)I"⟩
abbrev cX8_write : ByteArray := prog_1_method_39_code
def yX8_write : MethodName := ⟨RX8, "write", "(III)I"⟩
abbrev cX8_copy : ByteArray := prog_1_method_40_code
def yX8_copy : MethodName := ⟨RX8, "copy", "(IIIII)I"⟩
abbrev cX8_load : ByteArray := prog_1_method_41_code
def yX8_load : MethodName := ⟨RX8, "load", "(I)I"⟩
abbrev cX8_judge : ByteArray := prog_1_method_42_code
def yX8_judge : MethodName := ⟨RX8, "judge", "(I)I"⟩
abbrev cX8_image : ByteArray := prog_1_method_43_code
def yX8_image : MethodName := ⟨RX8, "image", "()I"⟩
abbrev cX8_undo : ByteArray := prog_1_method_44_code
def yX8_undo : MethodName := ⟨RX8, "undo", "()I"⟩
abbrev cX8_tear : ByteArray := prog_1_method_45_code
def yX8_tear : MethodName := ⟨RX8, "tear", "()I"⟩
abbrev cX8_count : ByteArray := prog_1_method_46_code
def yX8_count : MethodName := ⟨RX8, "count", "(I)I"⟩
abbrev cX8_status : ByteArray := prog_1_method_47_code
def yX8_status : MethodName := ⟨RX8, "status", "(I)I"⟩
abbrev cX8_finding : ByteArray := prog_1_method_48_code
def yX8_finding : MethodName := ⟨RX8, "finding", "(I)I"⟩
abbrev cX8_within : ByteArray := prog_1_method_49_code
def yX8_within : MethodName := ⟨RX8, "within", "(III)Z"⟩
abbrev cX8_isBatch : ByteArray := prog_1_method_50_code
def yX8_isBatch : MethodName := ⟨RX8, "isBatch", "(I)Z"⟩
abbrev cX8_isCrowd : ByteArray := prog_1_method_51_code
def yX8_isCrowd : MethodName := ⟨RX8, "isCrowd", "(I)Z"⟩
abbrev cX8_isCorner : ByteArray := prog_1_method_52_code
def yX8_isCorner : MethodName := ⟨RX8, "isCorner", "(I)Z"⟩
abbrev cX8_isSpot : ByteArray := prog_1_method_53_code
def yX8_isSpot : MethodName := ⟨RX8, "isSpot", "(I)Z"⟩
abbrev cX8_isPlan : ByteArray := prog_1_method_54_code
def yX8_isPlan : MethodName := ⟨RX8, "isPlan", "(I)Z"⟩
abbrev cX8_isTooLate : ByteArray := prog_1_method_55_code
def yX8_isTooLate : MethodName := ⟨RX8, "isTooLate", "(I)Z"⟩
abbrev cX8_mostOfRule : ByteArray := prog_1_method_56_code
def yX8_mostOfRule : MethodName := ⟨RX8, "mostOfRule", "(I)I"⟩
abbrev cX8_exchange : ByteArray := prog_1_method_57_code
def yX8_exchange : MethodName := ⟨RX8, "exchange", "([IIII)I"⟩
abbrev cX8_minutesToReady : ByteArray := prog_1_method_58_code
def yX8_minutesToReady : MethodName := ⟨RX8, "minutesToReady", "(II)I"⟩
abbrev cX8_isReadyJustAt : ByteArray := prog_1_method_59_code
def yX8_isReadyJustAt : MethodName := ⟨RX8, "isReadyJustAt", "(II)Z"⟩
abbrev cX8_coinTakenOff : ByteArray := prog_1_method_60_code
def yX8_coinTakenOff : MethodName := ⟨RX8, "coinTakenOff", "(II)I"⟩
abbrev cX8_coinFromCorner : ByteArray := prog_1_method_61_code
def yX8_coinFromCorner : MethodName := ⟨RX8, "coinFromCorner", "(II)I"⟩
abbrev cX8_coinWithout : ByteArray := prog_1_method_62_code
def yX8_coinWithout : MethodName := ⟨RX8, "coinWithout", "(II)I"⟩
def RX9 : String := "ChestnutCornerModel"
def TX9 : u_T := fun k => match k with
  | 0 => ("ChestnutCornerModel", "s", "[I", true)
  | 1 => ("ChestnutCornerModel", "keptS", "[I", true)
  | 2 => ("ChestnutCornerModel", "other", "[I", true)
  | 3 => ("ChestnutCornerModel", "statuses", "[I", true)
  | 4 => ("ChestnutCornerModel", "isKept", "Z", false)
  | 5 => ("ChestnutCornerModel", "tape", "[I", true)
  | 6 => ("ChestnutCornerModel", "taped", "I", false)
  | 7 => ("ChestnutCornerModel", "from", "I", false)
  | 8 => ("ChestnutCornerModel", "to", "I", false)
  | 9 => ("ChestnutCornerModel", "value", "I", false)
  | 10 => ("ChestnutCornerModel", "isWrong", "Z", false)
  | 11 => ("ChestnutCornerModel", "bitsOf", "[I", true)
  | 12 => ("ChestnutCornerModel", "sizeOf", "[I", true)
  | 13 => ("ChestnutCornerModel", "number", "[I", true)
  | _ => ("ChestnutCornerModel", "moved", "[I", true)
def tyX9 : Nat → FieldType := fun k => match k with
  | 0 => .array .int
  | 1 => .array .int
  | 2 => .array .int
  | 3 => .array .int
  | 4 => .boolean
  | 5 => .array .int
  | 6 => .int
  | 7 => .int
  | 8 => .int
  | 9 => .int
  | 10 => .boolean
  | 11 => .array .int
  | 12 => .array .int
  | 13 => .array .int
  | _ => .array .int
abbrev wsX90 : List Cond := u_ws RX9 TX9 15
theorem nmX9 : ∀ a, a < 15 → ∀ b, b < 15 → a ≠ b → (TX9 a).2.1 ≠ (TX9 b).2.1 := by decide +kernel
theorem tyX9_ok : ∀ k, k < 15 → parseFieldDescriptor (TX9 k).2.2.1 = some (tyX9 k) := by decide +kernel
abbrev cX9_init : ByteArray := prog_11_method_1_code
def yX9_init : MethodName := ⟨RX9, "<init>", "()V"⟩
abbrev cX9_in : ByteArray := prog_11_method_2_code
def yX9_in : MethodName := ⟨RX9, "in", "(JJJ)Z"⟩
abbrev cX9_finds : ByteArray := prog_11_method_3_code
def yX9_finds : MethodName := ⟨RX9, "finds", "(I)I"⟩
abbrev cX9_isBatch : ByteArray := prog_11_method_4_code
def yX9_isBatch : MethodName := ⟨RX9, "isBatch", "(I)Z"⟩
abbrev cX9_isCrowd : ByteArray := prog_11_method_5_code
def yX9_isCrowd : MethodName := ⟨RX9, "isCrowd", "(I)Z"⟩
abbrev cX9_isCorner : ByteArray := prog_11_method_6_code
def yX9_isCorner : MethodName := ⟨RX9, "isCorner", "(I)Z"⟩
abbrev cX9_draw : ByteArray := prog_11_method_7_code
def yX9_draw : MethodName := ⟨RX9, "draw", "()I"⟩
abbrev cX9_saves : ByteArray := prog_11_method_8_code
def yX9_saves : MethodName := ⟨RX9, "saves", "()V"⟩
abbrev cX9_putsBack : ByteArray := prog_11_method_9_code
def yX9_putsBack : MethodName := ⟨RX9, "putsBack", "()V"⟩
abbrev cX9_where : ByteArray := prog_11_method_10_code
def yX9_where : MethodName := ⟨RX9, "where", "(II)I"⟩
abbrev cX9_its : ByteArray := prog_11_method_11_code
def yX9_its : MethodName := ⟨RX9, "its", "(II)I"⟩
abbrev cX9_newBatch : ByteArray := prog_11_method_12_code
def yX9_newBatch : MethodName := ⟨RX9, "newBatch", "(III)I"⟩
abbrev cX9_batch : ByteArray := prog_11_method_13_code
def yX9_batch : MethodName := ⟨RX9, "batch", "(I)I"⟩
abbrev cX9_heatsOf : ByteArray := prog_11_method_14_code
def yX9_heatsOf : MethodName := ⟨RX9, "heatsOf", "(II)I"⟩
abbrev cX9_readyAt : ByteArray := prog_11_method_15_code
def yX9_readyAt : MethodName := ⟨RX9, "readyAt", "(I)I"⟩
abbrev cX9_burntAt : ByteArray := prog_11_method_16_code
def yX9_burntAt : MethodName := ⟨RX9, "burntAt", "(I)I"⟩
abbrev cX9_worth : ByteArray := prog_11_method_17_code
def yX9_worth : MethodName := ⟨RX9, "worth", "(I)I"⟩
abbrev cX9_of : ByteArray := prog_11_method_18_code
def yX9_of : MethodName := ⟨RX9, "of", "(II)I"⟩
abbrev cX9_isPart : ByteArray := prog_11_method_19_code
def yX9_isPart : MethodName := ⟨RX9, "isPart", "(II)Z"⟩
abbrev cX9_change : ByteArray := prog_11_method_20_code
def yX9_change : MethodName := ⟨RX9, "change", "(III)I"⟩
abbrev cX9_placed : ByteArray := prog_11_method_21_code
def yX9_placed : MethodName := ⟨RX9, "placed", "(I)I"⟩
abbrev cX9_ones : ByteArray := prog_11_method_22_code
def yX9_ones : MethodName := ⟨RX9, "ones", "(I)I"⟩
abbrev cX9_isRoom : ByteArray := prog_11_method_23_code
def yX9_isRoom : MethodName := ⟨RX9, "isRoom", "(I)Z"⟩
abbrev cX9_goes : ByteArray := prog_11_method_24_code
def yX9_goes : MethodName := ⟨RX9, "goes", "(I)V"⟩
abbrev cX9_putsAt : ByteArray := prog_11_method_25_code
def yX9_putsAt : MethodName := ⟨RX9, "putsAt", "(II)V"⟩
abbrev cX9_put : ByteArray := prog_11_method_26_code
def yX9_put : MethodName := ⟨RX9, "put", "(II)I"⟩
abbrev cX9_heats : ByteArray := prog_11_method_27_code
def yX9_heats : MethodName := ⟨RX9, "heats", "(II)I"⟩
abbrev cX9_isReady : ByteArray := prog_11_method_28_code
def yX9_isReady : MethodName := ⟨RX9, "isReady", "(I)Z"⟩
abbrev cX9_isBurnt : ByteArray := prog_11_method_29_code
def yX9_isBurnt : MethodName := ⟨RX9, "isBurnt", "(I)Z"⟩
abbrev cX9_howIs : ByteArray := prog_11_method_30_code
def yX9_howIs : MethodName := ⟨RX9, "howIs", "(I)I"⟩
abbrev cX9_how : ByteArray := prog_11_method_31_code
def yX9_how : MethodName := ⟨RX9, "how", "(I)I"⟩
abbrev cX9_dueAll : ByteArray := prog_11_method_32_code
def yX9_dueAll : MethodName := ⟨RX9, "dueAll", "()I"⟩
abbrev cX9_shovel : ByteArray := prog_11_method_33_code
def yX9_shovel : MethodName := ⟨RX9, "shovel", "(I)I"⟩
abbrev cX9_rule : ByteArray := prog_11_method_34_code
def yX9_rule : MethodName := ⟨RX9, "rule", "(II)I"⟩
abbrev cX9_walks : ByteArray := prog_11_method_35_code
def yX9_walks : MethodName := ⟨RX9, "walks", "(I)V"⟩
abbrev cX9_walk : ByteArray := prog_11_method_36_code
def yX9_walk : MethodName := ⟨RX9, "walk", "(I)I"⟩
abbrev cX9_who : ByteArray := prog_11_method_37_code
def yX9_who : MethodName := ⟨RX9, "who", "(II)I"⟩
abbrev cX9_told : ByteArray := prog_11_method_38_code
def yX9_told : MethodName := ⟨RX9, "told", "(II)I"⟩
abbrev cX9_isFigure : ByteArray := prog_11_method_39_code
def yX9_isFigure : MethodName := ⟨RX9, "isFigure", "(II)Z"⟩
abbrev cX9_newCrowd : ByteArray := prog_11_method_40_code
def yX9_newCrowd : MethodName := ⟨RX9, "newCrowd", "(III)I"⟩
abbrev cX9_crowd : ByteArray := prog_11_method_41_code
def yX9_crowd : MethodName := ⟨RX9, "crowd", "(III)I"⟩
abbrev cX9_come : ByteArray := prog_11_method_42_code
def yX9_come : MethodName := ⟨RX9, "come", "(I)I"⟩
abbrev cX9_crowdOf : ByteArray := prog_11_method_43_code
def yX9_crowdOf : MethodName := ⟨RX9, "crowdOf", "(II)I"⟩
abbrev cX9_late : ByteArray := prog_11_method_44_code
def yX9_late : MethodName := ⟨RX9, "late", "(III)I"⟩
abbrev cX9_warms : ByteArray := prog_11_method_45_code
def yX9_warms : MethodName := ⟨RX9, "warms", "()V"⟩
abbrev cX9_roasts : ByteArray := prog_11_method_46_code
def yX9_roasts : MethodName := ⟨RX9, "roasts", "()V"⟩
abbrev cX9_bought : ByteArray := prog_11_method_47_code
def yX9_bought : MethodName := ⟨RX9, "bought", "(I)I"⟩
abbrev cX9_buys : ByteArray := prog_11_method_48_code
def yX9_buys : MethodName := ⟨RX9, "buys", "(I)V"⟩
abbrev cX9_minute : ByteArray := prog_11_method_49_code
def yX9_minute : MethodName := ⟨RX9, "minute", "()V"⟩
abbrev cX9_minutesGo : ByteArray := prog_11_method_50_code
def yX9_minutesGo : MethodName := ⟨RX9, "minutesGo", "(I)V"⟩
abbrev cX9_isTooLate : ByteArray := prog_11_method_51_code
def yX9_isTooLate : MethodName := ⟨RX9, "isTooLate", "(I)Z"⟩
abbrev cX9_minutes : ByteArray := prog_11_method_52_code
def yX9_minutes : MethodName := ⟨RX9, "minutes", "(I)I"⟩
abbrev cX9_now : ByteArray := prog_11_method_53_code
def yX9_now : MethodName := ⟨RX9, "now", "(I)I"⟩
abbrev cX9_at : ByteArray := prog_11_method_54_code
def yX9_at : MethodName := ⟨RX9, "at", "(I)I"⟩
abbrev cX9_doneSet : ByteArray := prog_11_method_55_code
def yX9_doneSet : MethodName := ⟨RX9, "doneSet", "()I"⟩
abbrev cX9_bagsLeft : ByteArray := prog_11_method_56_code
def yX9_bagsLeft : MethodName := ⟨RX9, "bagsLeft", "()I"⟩
abbrev cX9_ahead : ByteArray := prog_11_method_57_code
def yX9_ahead : MethodName := ⟨RX9, "ahead", "(II)I"⟩
abbrev cX9_doneIn : ByteArray := prog_11_method_58_code
def yX9_doneIn : MethodName := ⟨RX9, "doneIn", "(IZ)I"⟩
abbrev cX9_doneFrom : ByteArray := prog_11_method_59_code
def yX9_doneFrom : MethodName := ⟨RX9, "doneFrom", "(IZ)I"⟩
abbrev cX9_ready : ByteArray := prog_11_method_60_code
def yX9_ready : MethodName := ⟨RX9, "ready", "(I)I"⟩
abbrev cX9_burnt : ByteArray := prog_11_method_61_code
def yX9_burnt : MethodName := ⟨RX9, "burnt", "(I)I"⟩
abbrev cX9_putOn : ByteArray := prog_11_method_62_code
def yX9_putOn : MethodName := ⟨RX9, "putOn", "(II)I"⟩
abbrev cX9_coinIn : ByteArray := prog_11_method_63_code
def yX9_coinIn : MethodName := ⟨RX9, "coinIn", "(I)I"⟩
abbrev cX9_isSpan : ByteArray := prog_11_method_64_code
def yX9_isSpan : MethodName := ⟨RX9, "isSpan", "(I)Z"⟩
abbrev cX9_isRoasting : ByteArray := prog_11_method_65_code
def yX9_isRoasting : MethodName := ⟨RX9, "isRoasting", "(I)Z"⟩
abbrev cX9_takeOff : ByteArray := prog_11_method_66_code
def yX9_takeOff : MethodName := ⟨RX9, "takeOff", "(II)I"⟩
abbrev cX9_shovels : ByteArray := prog_11_method_67_code
def yX9_shovels : MethodName := ⟨RX9, "shovels", "(I)I"⟩
abbrev cX9_corner : ByteArray := prog_11_method_68_code
def yX9_corner : MethodName := ⟨RX9, "corner", "(I)I"⟩
abbrev cX9_two : ByteArray := prog_11_method_69_code
def yX9_two : MethodName := ⟨RX9, "two", "(II)I"⟩
abbrev cX9_price : ByteArray := prog_11_method_70_code
def yX9_price : MethodName := ⟨RX9, "price", "(I)I"⟩
abbrev cX9_kindFor : ByteArray := prog_11_method_71_code
def yX9_kindFor : MethodName := ⟨RX9, "kindFor", "(II)I"⟩
abbrev cX9_heatFor : ByteArray := prog_11_method_72_code
def yX9_heatFor : MethodName := ⟨RX9, "heatFor", "(II)I"⟩
abbrev cX9_bringsIn : ByteArray := prog_11_method_73_code
def yX9_bringsIn : MethodName := ⟨RX9, "bringsIn", "(II)I"⟩
abbrev cX9_brings : ByteArray := prog_11_method_74_code
def yX9_brings : MethodName := ⟨RX9, "brings", "(II)I"⟩
abbrev cX9_best : ByteArray := prog_11_method_75_code
def yX9_best : MethodName := ⟨RX9, "best", "(I)I"⟩
abbrev cX9_left : ByteArray := prog_11_method_76_code
def yX9_left : MethodName := ⟨RX9, "left", "(I)I"⟩
abbrev cX9_boys : ByteArray := prog_11_method_77_code
def yX9_boys : MethodName := ⟨RX9, "boys", "(I)I"⟩
abbrev cX9_seed : ByteArray := prog_11_method_78_code
def yX9_seed : MethodName := ⟨RX9, "seed", "(I)I"⟩
abbrev cX9_feed : ByteArray := prog_11_method_79_code
def yX9_feed : MethodName := ⟨RX9, "feed", "(II)I"⟩
abbrev cX9_wipe : ByteArray := prog_11_method_80_code
def yX9_wipe : MethodName := ⟨RX9, "wipe", "()I"⟩
abbrev cX9_byteAt : ByteArray := prog_11_method_81_code
def yX9_byteAt : MethodName := ⟨RX9, "byteAt", "(I)I"⟩
abbrev cX9_isLetter : ByteArray := prog_11_method_82_code
def yX9_isLetter : MethodName := ⟨RX9, "isLetter", "(I)Z"⟩
abbrev cX9_isDigit : ByteArray := prog_11_method_83_code
def yX9_isDigit : MethodName := ⟨RX9, "isDigit", "(I)Z"⟩
abbrev cX9_token : ByteArray := prog_11_method_84_code
def yX9_token : MethodName := ⟨RX9, "token", "()V"⟩
abbrev cX9_needs : ByteArray := prog_11_method_85_code
def yX9_needs : MethodName := ⟨RX9, "needs", "(Z)V"⟩
abbrev cX9_word : ByteArray := prog_11_method_86_code
def yX9_word : MethodName := ⟨RX9, "word", "()J"⟩
abbrev cX9_number : ByteArray := prog_11_method_87_code
def yX9_number : MethodName := ⟨RX9, "number", "(II)V"⟩
abbrev cX9_kindHere : ByteArray := prog_11_method_88_code
def yX9_kindHere : MethodName := ⟨RX9, "kindHere", "()I"⟩
abbrev cX9_placeHere : ByteArray := prog_11_method_89_code
def yX9_placeHere : MethodName := ⟨RX9, "placeHere", "()I"⟩
abbrev cX9_perhaps : ByteArray := prog_11_method_90_code
def yX9_perhaps : MethodName := ⟨RX9, "perhaps", "(ZII)I"⟩
abbrev cX9_batchItem : ByteArray := prog_11_method_91_code
def yX9_batchItem : MethodName := ⟨RX9, "batchItem", "(I)V"⟩
abbrev cX9_crowdItem : ByteArray := prog_11_method_92_code
def yX9_crowdItem : MethodName := ⟨RX9, "crowdItem", "()V"⟩
abbrev cX9_ruleItem : ByteArray := prog_11_method_93_code
def yX9_ruleItem : MethodName := ⟨RX9, "ruleItem", "(II)V"⟩
abbrev cX9_item : ByteArray := prog_11_method_94_code
def yX9_item : MethodName := ⟨RX9, "item", "()V"⟩
abbrev cX9_text : ByteArray := prog_11_method_95_code
def yX9_text : MethodName := ⟨RX9, "text", "()I"⟩
abbrev cX9_hold : ByteArray := prog_11_method_96_code
def yX9_hold : MethodName := ⟨RX9, "hold", "(II)I"⟩
abbrev cX9_as : ByteArray := prog_11_method_97_code
def yX9_as : MethodName := ⟨RX9, "as", "(II)I"⟩
abbrev cX9_isOne : ByteArray := prog_11_method_98_code
def yX9_isOne : MethodName := ⟨RX9, "isOne", "(I)Z"⟩
abbrev cX9_sheet : ByteArray := prog_11_method_99_code
def yX9_sheet : MethodName := ⟨RX9, "sheet", "(III)I"⟩
abbrev cX9_narrowed : ByteArray := prog_11_method_100_code
def yX9_narrowed : MethodName := ⟨RX9, "narrowed", "(II)I"⟩
abbrev cX9_wrong : ByteArray := prog_11_method_101_code
def yX9_wrong : MethodName := ⟨RX9, "wrong", "(I)I"⟩
abbrev cX9_write : ByteArray := prog_11_method_102_code
def yX9_write : MethodName := ⟨RX9, "write", "(III)I"⟩
abbrev cX9_copy : ByteArray := prog_11_method_103_code
def yX9_copy : MethodName := ⟨RX9, "copy", "(IIIII)I"⟩
abbrev cX9_load : ByteArray := prog_11_method_104_code
def yX9_load : MethodName := ⟨RX9, "load", "(I)I"⟩
abbrev cX9_judge : ByteArray := prog_11_method_105_code
def yX9_judge : MethodName := ⟨RX9, "judge", "(I)I"⟩
abbrev cX9_image : ByteArray := prog_11_method_106_code
def yX9_image : MethodName := ⟨RX9, "image", "()I"⟩
abbrev cX9_undo : ByteArray := prog_11_method_107_code
def yX9_undo : MethodName := ⟨RX9, "undo", "()I"⟩
abbrev cX9_tear : ByteArray := prog_11_method_108_code
def yX9_tear : MethodName := ⟨RX9, "tear", "()I"⟩
abbrev cX9_held : ByteArray := prog_11_method_109_code
def yX9_held : MethodName := ⟨RX9, "held", "()I"⟩
abbrev cX9_bagsOfAll : ByteArray := prog_11_method_110_code
def yX9_bagsOfAll : MethodName := ⟨RX9, "bagsOfAll", "()I"⟩
abbrev cX9_peopleOfAll : ByteArray := prog_11_method_111_code
def yX9_peopleOfAll : MethodName := ⟨RX9, "peopleOfAll", "()I"⟩
abbrev cX9_count : ByteArray := prog_11_method_112_code
def yX9_count : MethodName := ⟨RX9, "count", "(I)I"⟩
abbrev cX9_status : ByteArray := prog_11_method_113_code
def yX9_status : MethodName := ⟨RX9, "status", "(I)I"⟩
def RJ6 : String := "java/lang/Integer"
def TJ6 : u_T := fun k => match k with
  | _ => ("", "", "", false)
def tyJ6 : Nat → FieldType := fun k => match k with
  | _ => .int
abbrev wsJ60 : List Cond := u_ws RJ6 TJ6 0
theorem nmJ6 : ∀ a, a < 0 → ∀ b, b < 0 → a ≠ b → (TJ6 a).2.1 ≠ (TJ6 b).2.1 := by decide +kernel
theorem tyJ6_ok : ∀ k, k < 0 → parseFieldDescriptor (TJ6 k).2.2.1 = some (tyJ6 k) := by decide +kernel
abbrev cJ6_bitCount_0f7a4 : ByteArray := prog_12_method_49_code
def yJ6_bitCount_0f7a4 : MethodName := ⟨RJ6, "bitCount", "(I)I"⟩
def RJ9 : String := "java/lang/Math"
def TJ9 : u_T := fun k => match k with
  | _ => ("", "", "", false)
def tyJ9 : Nat → FieldType := fun k => match k with
  | _ => .int
abbrev wsJ90 : List Cond := u_ws RJ9 TJ9 0
theorem nmJ9 : ∀ a, a < 0 → ∀ b, b < 0 → a ≠ b → (TJ9 a).2.1 ≠ (TJ9 b).2.1 := by decide +kernel
theorem tyJ9_ok : ∀ k, k < 0 → parseFieldDescriptor (TJ9 k).2.2.1 = some (tyJ9 k) := by decide +kernel
abbrev cJ9_abs_0f7a4 : ByteArray := prog_13_method_59_code
def yJ9_abs_0f7a4 : MethodName := ⟨RJ9, "abs", "(I)I"⟩
abbrev cJ9_max_7cf53 : ByteArray := prog_13_method_65_code
def yJ9_max_7cf53 : MethodName := ⟨RJ9, "max", "(II)I"⟩
abbrev cJ9_min_7cf53 : ByteArray := prog_13_method_69_code
def yJ9_min_7cf53 : MethodName := ⟨RJ9, "min", "(II)I"⟩
def RJ0 : String := "java/lang/String"
def TJ0 : u_T := fun k => match k with
  | _ => ("", "", "", false)
def tyJ0 : Nat → FieldType := fun k => match k with
  | _ => .int
abbrev wsJ00 : List Cond := u_ws RJ0 TJ0 0
theorem nmJ0 : ∀ a, a < 0 → ∀ b, b < 0 → a ≠ b → (TJ0 a).2.1 ≠ (TJ0 b).2.1 := by decide +kernel
theorem tyJ0_ok : ∀ k, k < 0 → parseFieldDescriptor (TJ0 k).2.2.1 = some (tyJ0 k) := by decide +kernel
abbrev cJ0_length_8abf5 : ByteArray := prog_14_method_54_code
def yJ0_length_8abf5 : MethodName := ⟨RJ0, "length", "()I"⟩
abbrev cJ0_charAt_5068e : ByteArray := prog_14_method_56_code
def yJ0_charAt_5068e : MethodName := ⟨RJ0, "charAt", "(I)C"⟩
abbrev cJ0_coder_7d493 : ByteArray := prog_14_method_152_code
def yJ0_coder_7d493 : MethodName := ⟨RJ0, "coder", "()B"⟩
abbrev cJ0_isLatin1_aae02 : ByteArray := prog_14_method_154_code
def yJ0_isLatin1_aae02 : MethodName := ⟨RJ0, "isLatin1", "()Z"⟩
abbrev cJ0_checkIndex_df160 : ByteArray := prog_14_method_155_code
def yJ0_checkIndex_df160 : MethodName := ⟨RJ0, "checkIndex", "(II)V"⟩
def RJ1 : String := "java/lang/StringLatin1"
def TJ1 : u_T := fun k => match k with
  | _ => ("", "", "", false)
def tyJ1 : Nat → FieldType := fun k => match k with
  | _ => .int
abbrev wsJ10 : List Cond := u_ws RJ1 TJ1 0
theorem nmJ1 : ∀ a, a < 0 → ∀ b, b < 0 → a ≠ b → (TJ1 a).2.1 ≠ (TJ1 b).2.1 := by decide +kernel
theorem tyJ1_ok : ∀ k, k < 0 → parseFieldDescriptor (TJ1 k).2.2.1 = some (tyJ1 k) := by decide +kernel
abbrev cJ1_charAt_3b067 : ByteArray := prog_15_method_2_code
def yJ1_charAt_3b067 : MethodName := ⟨RJ1, "charAt", "([BI)C"⟩
def RJ2 : String := "java/lang/StringUTF16"
def TJ2 : u_T := fun k => match k with
  | _ => ("", "", "", false)
def tyJ2 : Nat → FieldType := fun k => match k with
  | _ => .int
abbrev wsJ20 : List Cond := u_ws RJ2 TJ2 0
theorem nmJ2 : ∀ a, a < 0 → ∀ b, b < 0 → a ≠ b → (TJ2 a).2.1 ≠ (TJ2 b).2.1 := by decide +kernel
theorem tyJ2_ok : ∀ k, k < 0 → parseFieldDescriptor (TJ2 k).2.2.1 = some (tyJ2 k) := by decide +kernel
abbrev cJ2_getChar_3b067 : ByteArray := prog_16_method_5_code
def yJ2_getChar_3b067 : MethodName := ⟨RJ2, "getChar", "([BI)C"⟩
abbrev cJ2_length_9d52b : ByteArray := prog_16_method_6_code
def yJ2_length_9d52b : MethodName := ⟨RJ2, "length", "([B)I"⟩
abbrev cJ2_charAt_3b067 : ByteArray := prog_16_method_83_code
def yJ2_charAt_3b067 : MethodName := ⟨RJ2, "charAt", "([BI)C"⟩
abbrev cJ2_checkIndex_2214a : ByteArray := prog_16_method_91_code
def yJ2_checkIndex_2214a : MethodName := ⟨RJ2, "checkIndex", "(I[B)V"⟩
def RJ10 : String := "java/lang/System"
def TJ10 : u_T := fun k => match k with
  | _ => ("", "", "", false)
def tyJ10 : Nat → FieldType := fun k => match k with
  | _ => .int
abbrev wsJ100 : List Cond := u_ws RJ10 TJ10 0
theorem nmJ10 : ∀ a, a < 0 → ∀ b, b < 0 → a ≠ b → (TJ10 a).2.1 ≠ (TJ10 b).2.1 := by decide +kernel
theorem tyJ10_ok : ∀ k, k < 0 → parseFieldDescriptor (TJ10 k).2.2.1 = some (tyJ10 k) := by decide +kernel
def RJ3 : String := "jdk/internal/util/Preconditions"
def TJ3 : u_T := fun k => match k with
  | _ => ("", "", "", false)
def tyJ3 : Nat → FieldType := fun k => match k with
  | _ => .int
abbrev wsJ30 : List Cond := u_ws RJ3 TJ3 0
theorem nmJ3 : ∀ a, a < 0 → ∀ b, b < 0 → a ≠ b → (TJ3 a).2.1 ≠ (TJ3 b).2.1 := by decide +kernel
theorem tyJ3_ok : ∀ k, k < 0 → parseFieldDescriptor (TJ3 k).2.2.1 = some (tyJ3 k) := by decide +kernel
abbrev cJ3_checkIndex_8e157 : ByteArray := prog_18_method_11_code
def yJ3_checkIndex_8e157 : MethodName := ⟨RJ3, "checkIndex", "(IILjava/util/function/BiFunction;)I"⟩
def RL : String := "ChestnutCornerLaw"
abbrev cL_law : ByteArray := code
def yL_law : MethodName := ⟨RL, "law", "([I)Z"⟩
theorem dX0_init_0 : decode cX0_init 0 = .ok (.aload_n 0, 1) := by decide +kernel
theorem dX0_init_1 : decode cX0_init 1 = .ok (.invokespecial 1, 3) := by decide +kernel
theorem dX0_init_4 : decode cX0_init 4 = .ok (.aload_n 0, 1) := by decide +kernel
theorem dX0_init_5 : decode cX0_init 5 = .ok (.iconst (-1), 1) := by decide +kernel
theorem dX0_init_6 : decode cX0_init 6 = .ok (.putfield 7, 3) := by decide +kernel
theorem dX0_init_9 : decode cX0_init 9 = .ok (.aload_n 0, 1) := by decide +kernel
theorem dX0_init_10 : decode cX0_init 10 = .ok (.iconst 0, 1) := by decide +kernel
theorem dX0_init_11 : decode cX0_init 11 = .ok (.putfield 13, 3) := by decide +kernel
theorem dX0_init_14 : decode cX0_init 14 = .ok (.return_, 1) := by decide +kernel
theorem dX0_clear_0 : decode cX0_clear 0 = .ok (.aload_n 0, 1) := by decide +kernel
theorem dX0_clear_1 : decode cX0_clear 1 = .ok (.iconst (-1), 1) := by decide +kernel
theorem dX0_clear_2 : decode cX0_clear 2 = .ok (.putfield 7, 3) := by decide +kernel
theorem dX0_clear_5 : decode cX0_clear 5 = .ok (.return_, 1) := by decide +kernel
theorem dX0_offer_0 : decode cX0_offer 0 = .ok (.aload_n 0, 1) := by decide +kernel
theorem dX0_offer_1 : decode cX0_offer 1 = .ok (.getfield 7, 3) := by decide +kernel
theorem dX0_offer_4 : decode cX0_offer 4 = .ok (.ifCond .lt 11, 3) := by decide +kernel
theorem dX0_offer_7 : decode cX0_offer 7 = .ok (.iload_n 2, 1) := by decide +kernel
theorem dX0_offer_8 : decode cX0_offer 8 = .ok (.aload_n 0, 1) := by decide +kernel
theorem dX0_offer_9 : decode cX0_offer 9 = .ok (.getfield 13, 3) := by decide +kernel
theorem dX0_offer_12 : decode cX0_offer 12 = .ok (.if_icmp .le 13, 3) := by decide +kernel
theorem dX0_offer_15 : decode cX0_offer 15 = .ok (.aload_n 0, 1) := by decide +kernel
theorem dX0_offer_16 : decode cX0_offer 16 = .ok (.iload_n 1, 1) := by decide +kernel
theorem dX0_offer_17 : decode cX0_offer 17 = .ok (.putfield 7, 3) := by decide +kernel
theorem dX0_offer_20 : decode cX0_offer 20 = .ok (.aload_n 0, 1) := by decide +kernel
theorem dX0_offer_21 : decode cX0_offer 21 = .ok (.iload_n 2, 1) := by decide +kernel
theorem dX0_offer_22 : decode cX0_offer 22 = .ok (.putfield 13, 3) := by decide +kernel
theorem dX0_offer_25 : decode cX0_offer 25 = .ok (.return_, 1) := by decide +kernel
theorem dX1_init_0 : decode cX1_init 0 = .ok (.aload_n 0, 1) := by decide +kernel
theorem dX1_init_1 : decode cX1_init 1 = .ok (.invokespecial 3, 3) := by decide +kernel
theorem dX1_init_4 : decode cX1_init 4 = .ok (.aload_n 0, 1) := by decide +kernel
theorem dX1_init_5 : decode cX1_init 5 = .ok (.bipush 12, 2) := by decide +kernel
theorem dX1_init_7 : decode cX1_init 7 = .ok (.newarray .int, 2) := by decide +kernel
theorem dX1_init_9 : decode cX1_init 9 = .ok (.putfield 9, 3) := by decide +kernel
theorem dX1_init_12 : decode cX1_init 12 = .ok (.aload_n 0, 1) := by decide +kernel
theorem dX1_init_13 : decode cX1_init 13 = .ok (.bipush 12, 2) := by decide +kernel
theorem dX1_init_15 : decode cX1_init 15 = .ok (.newarray .int, 2) := by decide +kernel
theorem dX1_init_17 : decode cX1_init 17 = .ok (.putfield 15, 3) := by decide +kernel
theorem dX1_init_20 : decode cX1_init 20 = .ok (.aload_n 0, 1) := by decide +kernel
theorem dX1_init_21 : decode cX1_init 21 = .ok (.bipush 12, 2) := by decide +kernel
theorem dX1_init_23 : decode cX1_init 23 = .ok (.newarray .int, 2) := by decide +kernel
theorem dX1_init_25 : decode cX1_init 25 = .ok (.putfield 18, 3) := by decide +kernel
theorem dX1_init_28 : decode cX1_init 28 = .ok (.aload_n 0, 1) := by decide +kernel
theorem dX1_init_29 : decode cX1_init 29 = .ok (.iconst 0, 1) := by decide +kernel
theorem dX1_init_30 : decode cX1_init 30 = .ok (.putfield 21, 3) := by decide +kernel
theorem dX1_init_33 : decode cX1_init 33 = .ok (.return_, 1) := by decide +kernel
theorem dX1_become_0 : decode cX1_become 0 = .ok (.aload_n 0, 1) := by decide +kernel
theorem dX1_become_1 : decode cX1_become 1 = .ok (.aload_n 1, 1) := by decide +kernel
theorem dX1_become_2 : decode cX1_become 2 = .ok (.getfield 21, 3) := by decide +kernel
theorem dX1_become_5 : decode cX1_become 5 = .ok (.putfield 21, 3) := by decide +kernel
theorem dX1_become_8 : decode cX1_become 8 = .ok (.aload_n 1, 1) := by decide +kernel
theorem dX1_become_9 : decode cX1_become 9 = .ok (.getfield 9, 3) := by decide +kernel
theorem dX1_become_12 : decode cX1_become 12 = .ok (.iconst 0, 1) := by decide +kernel
theorem dX1_become_13 : decode cX1_become 13 = .ok (.aload_n 0, 1) := by decide +kernel
theorem dX1_become_14 : decode cX1_become 14 = .ok (.getfield 9, 3) := by decide +kernel
theorem dX1_become_17 : decode cX1_become 17 = .ok (.iconst 0, 1) := by decide +kernel
theorem dX1_become_18 : decode cX1_become 18 = .ok (.bipush 12, 2) := by decide +kernel
theorem dX1_become_20 : decode cX1_become 20 = .ok (.invokestatic 25, 3) := by decide +kernel
theorem dX1_become_23 : decode cX1_become 23 = .ok (.aload_n 1, 1) := by decide +kernel
theorem dX1_become_24 : decode cX1_become 24 = .ok (.getfield 15, 3) := by decide +kernel
theorem dX1_become_27 : decode cX1_become 27 = .ok (.iconst 0, 1) := by decide +kernel
theorem dX1_become_28 : decode cX1_become 28 = .ok (.aload_n 0, 1) := by decide +kernel
theorem dX1_become_29 : decode cX1_become 29 = .ok (.getfield 15, 3) := by decide +kernel
theorem dX1_become_32 : decode cX1_become 32 = .ok (.iconst 0, 1) := by decide +kernel
theorem dX1_become_33 : decode cX1_become 33 = .ok (.bipush 12, 2) := by decide +kernel
theorem dX1_become_35 : decode cX1_become 35 = .ok (.invokestatic 25, 3) := by decide +kernel
theorem dX1_become_38 : decode cX1_become 38 = .ok (.aload_n 1, 1) := by decide +kernel
theorem dX1_become_39 : decode cX1_become 39 = .ok (.getfield 18, 3) := by decide +kernel
theorem dX1_become_42 : decode cX1_become 42 = .ok (.iconst 0, 1) := by decide +kernel
theorem dX1_become_43 : decode cX1_become 43 = .ok (.aload_n 0, 1) := by decide +kernel
theorem dX1_become_44 : decode cX1_become 44 = .ok (.getfield 18, 3) := by decide +kernel
theorem dX1_become_47 : decode cX1_become 47 = .ok (.iconst 0, 1) := by decide +kernel
theorem dX1_become_48 : decode cX1_become 48 = .ok (.bipush 12, 2) := by decide +kernel
theorem dX1_become_50 : decode cX1_become 50 = .ok (.invokestatic 25, 3) := by decide +kernel
theorem dX1_become_53 : decode cX1_become 53 = .ok (.return_, 1) := by decide +kernel
theorem dX1_isFull_0 : decode cX1_isFull 0 = .ok (.aload_n 0, 1) := by decide +kernel
theorem dX1_isFull_1 : decode cX1_isFull 1 = .ok (.getfield 21, 3) := by decide +kernel
theorem dX1_isFull_4 : decode cX1_isFull 4 = .ok (.bipush 12, 2) := by decide +kernel
theorem dX1_isFull_6 : decode cX1_isFull 6 = .ok (.if_icmp .lt 7, 3) := by decide +kernel
theorem dX1_isFull_9 : decode cX1_isFull 9 = .ok (.iconst 1, 1) := by decide +kernel
theorem dX1_isFull_10 : decode cX1_isFull 10 = .ok (.goto 4, 3) := by decide +kernel
theorem dX1_isFull_13 : decode cX1_isFull 13 = .ok (.iconst 0, 1) := by decide +kernel
theorem dX1_isFull_14 : decode cX1_isFull 14 = .ok (.ireturn, 1) := by decide +kernel
theorem dX1_add_0 : decode cX1_add 0 = .ok (.aload_n 0, 1) := by decide +kernel
theorem dX1_add_1 : decode cX1_add 1 = .ok (.getfield 21, 3) := by decide +kernel
theorem dX1_add_4 : decode cX1_add 4 = .ok (.istore 4, 2) := by decide +kernel
theorem dX1_add_6 : decode cX1_add 6 = .ok (.aload_n 0, 1) := by decide +kernel
theorem dX1_add_7 : decode cX1_add 7 = .ok (.getfield 9, 3) := by decide +kernel
theorem dX1_add_10 : decode cX1_add 10 = .ok (.iload 4, 2) := by decide +kernel
theorem dX1_add_12 : decode cX1_add 12 = .ok (.iload_n 1, 1) := by decide +kernel
theorem dX1_add_13 : decode cX1_add 13 = .ok (.iastore, 1) := by decide +kernel
theorem dX1_add_14 : decode cX1_add 14 = .ok (.aload_n 0, 1) := by decide +kernel
theorem dX1_add_15 : decode cX1_add 15 = .ok (.getfield 15, 3) := by decide +kernel
theorem dX1_add_18 : decode cX1_add 18 = .ok (.iload 4, 2) := by decide +kernel
theorem dX1_add_20 : decode cX1_add 20 = .ok (.iload_n 2, 1) := by decide +kernel
theorem dX1_add_21 : decode cX1_add 21 = .ok (.iastore, 1) := by decide +kernel
theorem dX1_add_22 : decode cX1_add 22 = .ok (.aload_n 0, 1) := by decide +kernel
theorem dX1_add_23 : decode cX1_add 23 = .ok (.getfield 18, 3) := by decide +kernel
theorem dX1_add_26 : decode cX1_add 26 = .ok (.iload 4, 2) := by decide +kernel
theorem dX1_add_28 : decode cX1_add 28 = .ok (.iload_n 3, 1) := by decide +kernel
theorem dX1_add_29 : decode cX1_add 29 = .ok (.iastore, 1) := by decide +kernel
theorem dX1_add_30 : decode cX1_add 30 = .ok (.aload_n 0, 1) := by decide +kernel
theorem dX1_add_31 : decode cX1_add 31 = .ok (.dup, 1) := by decide +kernel
theorem dX1_add_32 : decode cX1_add 32 = .ok (.getfield 21, 3) := by decide +kernel
theorem dX1_add_35 : decode cX1_add 35 = .ok (.iconst 1, 1) := by decide +kernel
theorem dX1_add_36 : decode cX1_add 36 = .ok (.iadd, 1) := by decide +kernel
theorem dX1_add_37 : decode cX1_add 37 = .ok (.putfield 21, 3) := by decide +kernel
theorem dX1_add_40 : decode cX1_add 40 = .ok (.iload 4, 2) := by decide +kernel
theorem dX1_add_42 : decode cX1_add 42 = .ok (.ireturn, 1) := by decide +kernel
theorem dX1_manyOfAll_0 : decode cX1_manyOfAll 0 = .ok (.iconst 0, 1) := by decide +kernel
theorem dX1_manyOfAll_1 : decode cX1_manyOfAll 1 = .ok (.istore_n 1, 1) := by decide +kernel
theorem dX1_manyOfAll_2 : decode cX1_manyOfAll 2 = .ok (.iconst 0, 1) := by decide +kernel
theorem dX1_manyOfAll_3 : decode cX1_manyOfAll 3 = .ok (.istore_n 2, 1) := by decide +kernel
theorem dX1_manyOfAll_4 : decode cX1_manyOfAll 4 = .ok (.iload_n 2, 1) := by decide +kernel
theorem dX1_manyOfAll_5 : decode cX1_manyOfAll 5 = .ok (.aload_n 0, 1) := by decide +kernel
theorem dX1_manyOfAll_6 : decode cX1_manyOfAll 6 = .ok (.getfield 21, 3) := by decide +kernel
theorem dX1_manyOfAll_9 : decode cX1_manyOfAll 9 = .ok (.if_icmp .ge 18, 3) := by decide +kernel
theorem dX1_manyOfAll_12 : decode cX1_manyOfAll 12 = .ok (.iload_n 1, 1) := by decide +kernel
theorem dX1_manyOfAll_13 : decode cX1_manyOfAll 13 = .ok (.aload_n 0, 1) := by decide +kernel
theorem dX1_manyOfAll_14 : decode cX1_manyOfAll 14 = .ok (.getfield 18, 3) := by decide +kernel
theorem dX1_manyOfAll_17 : decode cX1_manyOfAll 17 = .ok (.iload_n 2, 1) := by decide +kernel
theorem dX1_manyOfAll_18 : decode cX1_manyOfAll 18 = .ok (.iaload, 1) := by decide +kernel
theorem dX1_manyOfAll_19 : decode cX1_manyOfAll 19 = .ok (.iadd, 1) := by decide +kernel
theorem dX1_manyOfAll_20 : decode cX1_manyOfAll 20 = .ok (.istore_n 1, 1) := by decide +kernel
theorem dX1_manyOfAll_21 : decode cX1_manyOfAll 21 = .ok (.iinc 2 1, 3) := by decide +kernel
theorem dX1_manyOfAll_24 : decode cX1_manyOfAll 24 = .ok (.goto (-20), 3) := by decide +kernel
theorem dX1_manyOfAll_27 : decode cX1_manyOfAll 27 = .ok (.iload_n 1, 1) := by decide +kernel
theorem dX1_manyOfAll_28 : decode cX1_manyOfAll 28 = .ok (.ireturn, 1) := by decide +kernel
theorem dX2_init_0 : decode cX2_init 0 = .ok (.aload_n 0, 1) := by decide +kernel
theorem dX2_init_1 : decode cX2_init 1 = .ok (.invokespecial 3, 3) := by decide +kernel
theorem dX2_init_4 : decode cX2_init 4 = .ok (.aload_n 0, 1) := by decide +kernel
theorem dX2_init_5 : decode cX2_init 5 = .ok (.new 9, 3) := by decide +kernel
theorem dX2_init_8 : decode cX2_init 8 = .ok (.dup, 1) := by decide +kernel
theorem dX2_init_9 : decode cX2_init 9 = .ok (.invokespecial 11, 3) := by decide +kernel
theorem dX2_init_12 : decode cX2_init 12 = .ok (.putfield 12, 3) := by decide +kernel
theorem dX2_init_15 : decode cX2_init 15 = .ok (.aload_n 0, 1) := by decide +kernel
theorem dX2_init_16 : decode cX2_init 16 = .ok (.new 18, 3) := by decide +kernel
theorem dX2_init_19 : decode cX2_init 19 = .ok (.dup, 1) := by decide +kernel
theorem dX2_init_20 : decode cX2_init 20 = .ok (.invokespecial 20, 3) := by decide +kernel
theorem dX2_init_23 : decode cX2_init 23 = .ok (.putfield 21, 3) := by decide +kernel
theorem dX2_init_26 : decode cX2_init 26 = .ok (.aload_n 0, 1) := by decide +kernel
theorem dX2_init_27 : decode cX2_init 27 = .ok (.bipush 7, 2) := by decide +kernel
theorem dX2_init_29 : decode cX2_init 29 = .ok (.newarray .int, 2) := by decide +kernel
theorem dX2_init_31 : decode cX2_init 31 = .ok (.putfield 25, 3) := by decide +kernel
theorem dX2_init_34 : decode cX2_init 34 = .ok (.aload_n 0, 1) := by decide +kernel
theorem dX2_init_35 : decode cX2_init 35 = .ok (.bipush 10, 2) := by decide +kernel
theorem dX2_init_37 : decode cX2_init 37 = .ok (.newarray .int, 2) := by decide +kernel
theorem dX2_init_39 : decode cX2_init 39 = .ok (.putfield 29, 3) := by decide +kernel
theorem dX2_init_42 : decode cX2_init 42 = .ok (.aload_n 0, 1) := by decide +kernel
theorem dX2_init_43 : decode cX2_init 43 = .ok (.iconst 5, 1) := by decide +kernel
theorem dX2_init_44 : decode cX2_init 44 = .ok (.putfield 32, 3) := by decide +kernel
theorem dX2_init_47 : decode cX2_init 47 = .ok (.aload_n 0, 1) := by decide +kernel
theorem dX2_init_48 : decode cX2_init 48 = .ok (.iconst 4, 1) := by decide +kernel
theorem dX2_init_49 : decode cX2_init 49 = .ok (.putfield 36, 3) := by decide +kernel
theorem dX2_init_52 : decode cX2_init 52 = .ok (.aload_n 0, 1) := by decide +kernel
theorem dX2_init_53 : decode cX2_init 53 = .ok (.iconst 5, 1) := by decide +kernel
theorem dX2_init_54 : decode cX2_init 54 = .ok (.putfield 39, 3) := by decide +kernel
theorem dX2_init_57 : decode cX2_init 57 = .ok (.aload_n 0, 1) := by decide +kernel
theorem dX2_init_58 : decode cX2_init 58 = .ok (.iconst 0, 1) := by decide +kernel
theorem dX2_init_59 : decode cX2_init 59 = .ok (.putfield 42, 3) := by decide +kernel
theorem dX2_init_62 : decode cX2_init 62 = .ok (.aload_n 0, 1) := by decide +kernel
theorem dX2_init_63 : decode cX2_init 63 = .ok (.iconst 0, 1) := by decide +kernel
theorem dX2_init_64 : decode cX2_init 64 = .ok (.putfield 45, 3) := by decide +kernel
theorem dX2_init_67 : decode cX2_init 67 = .ok (.aload_n 0, 1) := by decide +kernel
theorem dX2_init_68 : decode cX2_init 68 = .ok (.iconst 0, 1) := by decide +kernel
theorem dX2_init_69 : decode cX2_init 69 = .ok (.putfield 48, 3) := by decide +kernel
theorem dX2_init_72 : decode cX2_init 72 = .ok (.aload_n 0, 1) := by decide +kernel
theorem dX2_init_73 : decode cX2_init 73 = .ok (.iconst 0, 1) := by decide +kernel
theorem dX2_init_74 : decode cX2_init 74 = .ok (.putfield 51, 3) := by decide +kernel
theorem dX2_init_77 : decode cX2_init 77 = .ok (.aload_n 0, 1) := by decide +kernel
theorem dX2_init_78 : decode cX2_init 78 = .ok (.iconst 0, 1) := by decide +kernel
theorem dX2_init_79 : decode cX2_init 79 = .ok (.putfield 54, 3) := by decide +kernel
theorem dX2_init_82 : decode cX2_init 82 = .ok (.aload_n 0, 1) := by decide +kernel
theorem dX2_init_83 : decode cX2_init 83 = .ok (.iconst 0, 1) := by decide +kernel
theorem dX2_init_84 : decode cX2_init 84 = .ok (.putfield 57, 3) := by decide +kernel
theorem dX2_init_87 : decode cX2_init 87 = .ok (.aload_n 0, 1) := by decide +kernel
theorem dX2_init_88 : decode cX2_init 88 = .ok (.iconst 0, 1) := by decide +kernel
theorem dX2_init_89 : decode cX2_init 89 = .ok (.putfield 60, 3) := by decide +kernel
theorem dX2_init_92 : decode cX2_init 92 = .ok (.aload_n 0, 1) := by decide +kernel
theorem dX2_init_93 : decode cX2_init 93 = .ok (.iconst 1, 1) := by decide +kernel
theorem dX2_init_94 : decode cX2_init 94 = .ok (.putfield 63, 3) := by decide +kernel
theorem dX2_init_97 : decode cX2_init 97 = .ok (.iconst 0, 1) := by decide +kernel
theorem dX2_init_98 : decode cX2_init 98 = .ok (.istore_n 1, 1) := by decide +kernel
theorem dX2_init_99 : decode cX2_init 99 = .ok (.iload_n 1, 1) := by decide +kernel
theorem dX2_init_100 : decode cX2_init 100 = .ok (.bipush 10, 2) := by decide +kernel
theorem dX2_init_102 : decode cX2_init 102 = .ok (.if_icmp .ge 16, 3) := by decide +kernel
theorem dX2_init_105 : decode cX2_init 105 = .ok (.aload_n 0, 1) := by decide +kernel
theorem dX2_init_106 : decode cX2_init 106 = .ok (.getfield 29, 3) := by decide +kernel
theorem dX2_init_109 : decode cX2_init 109 = .ok (.iload_n 1, 1) := by decide +kernel
theorem dX2_init_110 : decode cX2_init 110 = .ok (.iconst (-1), 1) := by decide +kernel
theorem dX2_init_111 : decode cX2_init 111 = .ok (.iastore, 1) := by decide +kernel
theorem dX2_init_112 : decode cX2_init 112 = .ok (.iinc 1 1, 3) := by decide +kernel
theorem dX2_init_115 : decode cX2_init 115 = .ok (.goto (-16), 3) := by decide +kernel
theorem dX2_init_118 : decode cX2_init 118 = .ok (.return_, 1) := by decide +kernel
theorem dX2_become_0 : decode cX2_become 0 = .ok (.aload_n 0, 1) := by decide +kernel
theorem dX2_become_1 : decode cX2_become 1 = .ok (.getfield 12, 3) := by decide +kernel
theorem dX2_become_4 : decode cX2_become 4 = .ok (.aload_n 1, 1) := by decide +kernel
theorem dX2_become_5 : decode cX2_become 5 = .ok (.getfield 12, 3) := by decide +kernel
theorem dX2_become_8 : decode cX2_become 8 = .ok (.invokevirtual 66, 3) := by decide +kernel
theorem dX2_become_11 : decode cX2_become 11 = .ok (.aload_n 0, 1) := by decide +kernel
theorem dX2_become_12 : decode cX2_become 12 = .ok (.getfield 21, 3) := by decide +kernel
theorem dX2_become_15 : decode cX2_become 15 = .ok (.aload_n 1, 1) := by decide +kernel
theorem dX2_become_16 : decode cX2_become 16 = .ok (.getfield 21, 3) := by decide +kernel
theorem dX2_become_19 : decode cX2_become 19 = .ok (.invokevirtual 70, 3) := by decide +kernel
theorem dX2_become_22 : decode cX2_become 22 = .ok (.aload_n 1, 1) := by decide +kernel
theorem dX2_become_23 : decode cX2_become 23 = .ok (.getfield 25, 3) := by decide +kernel
theorem dX2_become_26 : decode cX2_become 26 = .ok (.iconst 0, 1) := by decide +kernel
theorem dX2_become_27 : decode cX2_become 27 = .ok (.aload_n 0, 1) := by decide +kernel
theorem dX2_become_28 : decode cX2_become 28 = .ok (.getfield 25, 3) := by decide +kernel
theorem dX2_become_31 : decode cX2_become 31 = .ok (.iconst 0, 1) := by decide +kernel
theorem dX2_become_32 : decode cX2_become 32 = .ok (.bipush 7, 2) := by decide +kernel
theorem dX2_become_34 : decode cX2_become 34 = .ok (.invokestatic 73, 3) := by decide +kernel
theorem dX2_become_37 : decode cX2_become 37 = .ok (.aload_n 1, 1) := by decide +kernel
theorem dX2_become_38 : decode cX2_become 38 = .ok (.getfield 29, 3) := by decide +kernel
theorem dX2_become_41 : decode cX2_become 41 = .ok (.iconst 0, 1) := by decide +kernel
theorem dX2_become_42 : decode cX2_become 42 = .ok (.aload_n 0, 1) := by decide +kernel
theorem dX2_become_43 : decode cX2_become 43 = .ok (.getfield 29, 3) := by decide +kernel
theorem dX2_become_46 : decode cX2_become 46 = .ok (.iconst 0, 1) := by decide +kernel
theorem dX2_become_47 : decode cX2_become 47 = .ok (.bipush 10, 2) := by decide +kernel
theorem dX2_become_49 : decode cX2_become 49 = .ok (.invokestatic 73, 3) := by decide +kernel
theorem dX2_become_52 : decode cX2_become 52 = .ok (.aload_n 0, 1) := by decide +kernel
theorem dX2_become_53 : decode cX2_become 53 = .ok (.aload_n 1, 1) := by decide +kernel
theorem dX2_become_54 : decode cX2_become 54 = .ok (.getfield 32, 3) := by decide +kernel
theorem dX2_become_57 : decode cX2_become 57 = .ok (.putfield 32, 3) := by decide +kernel
theorem dX2_become_60 : decode cX2_become 60 = .ok (.aload_n 0, 1) := by decide +kernel
theorem dX2_become_61 : decode cX2_become 61 = .ok (.aload_n 1, 1) := by decide +kernel
theorem dX2_become_62 : decode cX2_become 62 = .ok (.getfield 36, 3) := by decide +kernel
theorem dX2_become_65 : decode cX2_become 65 = .ok (.putfield 36, 3) := by decide +kernel
theorem dX2_become_68 : decode cX2_become 68 = .ok (.aload_n 0, 1) := by decide +kernel
theorem dX2_become_69 : decode cX2_become 69 = .ok (.aload_n 1, 1) := by decide +kernel
theorem dX2_become_70 : decode cX2_become 70 = .ok (.getfield 39, 3) := by decide +kernel
theorem dX2_become_73 : decode cX2_become 73 = .ok (.putfield 39, 3) := by decide +kernel
theorem dX2_become_76 : decode cX2_become 76 = .ok (.aload_n 0, 1) := by decide +kernel
theorem dX2_become_77 : decode cX2_become 77 = .ok (.aload_n 1, 1) := by decide +kernel
theorem dX2_become_78 : decode cX2_become 78 = .ok (.getfield 42, 3) := by decide +kernel
theorem dX2_become_81 : decode cX2_become 81 = .ok (.putfield 42, 3) := by decide +kernel
theorem dX2_become_84 : decode cX2_become 84 = .ok (.aload_n 0, 1) := by decide +kernel
theorem dX2_become_85 : decode cX2_become 85 = .ok (.aload_n 1, 1) := by decide +kernel
theorem dX2_become_86 : decode cX2_become 86 = .ok (.getfield 45, 3) := by decide +kernel
theorem dX2_become_89 : decode cX2_become 89 = .ok (.putfield 45, 3) := by decide +kernel
theorem dX2_become_92 : decode cX2_become 92 = .ok (.aload_n 0, 1) := by decide +kernel
theorem dX2_become_93 : decode cX2_become 93 = .ok (.aload_n 1, 1) := by decide +kernel
theorem dX2_become_94 : decode cX2_become 94 = .ok (.getfield 48, 3) := by decide +kernel
theorem dX2_become_97 : decode cX2_become 97 = .ok (.putfield 48, 3) := by decide +kernel
theorem dX2_become_100 : decode cX2_become 100 = .ok (.aload_n 0, 1) := by decide +kernel
theorem dX2_become_101 : decode cX2_become 101 = .ok (.aload_n 1, 1) := by decide +kernel
theorem dX2_become_102 : decode cX2_become 102 = .ok (.getfield 51, 3) := by decide +kernel
theorem dX2_become_105 : decode cX2_become 105 = .ok (.putfield 51, 3) := by decide +kernel
theorem dX2_become_108 : decode cX2_become 108 = .ok (.aload_n 0, 1) := by decide +kernel
theorem dX2_become_109 : decode cX2_become 109 = .ok (.aload_n 1, 1) := by decide +kernel
theorem dX2_become_110 : decode cX2_become 110 = .ok (.getfield 54, 3) := by decide +kernel
theorem dX2_become_113 : decode cX2_become 113 = .ok (.putfield 54, 3) := by decide +kernel
theorem dX2_become_116 : decode cX2_become 116 = .ok (.aload_n 0, 1) := by decide +kernel
theorem dX2_become_117 : decode cX2_become 117 = .ok (.aload_n 1, 1) := by decide +kernel
theorem dX2_become_118 : decode cX2_become 118 = .ok (.getfield 57, 3) := by decide +kernel
theorem dX2_become_121 : decode cX2_become 121 = .ok (.putfield 57, 3) := by decide +kernel
theorem dX2_become_124 : decode cX2_become 124 = .ok (.aload_n 0, 1) := by decide +kernel
theorem dX2_become_125 : decode cX2_become 125 = .ok (.aload_n 1, 1) := by decide +kernel
theorem dX2_become_126 : decode cX2_become 126 = .ok (.getfield 60, 3) := by decide +kernel
theorem dX2_become_129 : decode cX2_become 129 = .ok (.putfield 60, 3) := by decide +kernel
theorem dX2_become_132 : decode cX2_become 132 = .ok (.aload_n 0, 1) := by decide +kernel
theorem dX2_become_133 : decode cX2_become 133 = .ok (.aload_n 1, 1) := by decide +kernel
theorem dX2_become_134 : decode cX2_become 134 = .ok (.getfield 63, 3) := by decide +kernel
theorem dX2_become_137 : decode cX2_become 137 = .ok (.putfield 63, 3) := by decide +kernel
theorem dX2_become_140 : decode cX2_become 140 = .ok (.return_, 1) := by decide +kernel
theorem dX2_ruled_0 : decode cX2_ruled 0 = .ok (.iload_n 1, 1) := by decide +kernel
theorem dX2_ruled_1 : decode cX2_ruled 1 = .ok (.lookupswitch 37 #[(0, 27), (1, 32)], 27) := by decide +kernel
theorem dX2_ruled_28 : decode cX2_ruled 28 = .ok (.aload_n 0, 1) := by decide +kernel
theorem dX2_ruled_29 : decode cX2_ruled 29 = .ok (.getfield 32, 3) := by decide +kernel
theorem dX2_ruled_32 : decode cX2_ruled 32 = .ok (.ireturn, 1) := by decide +kernel
theorem dX2_ruled_33 : decode cX2_ruled 33 = .ok (.aload_n 0, 1) := by decide +kernel
theorem dX2_ruled_34 : decode cX2_ruled 34 = .ok (.getfield 36, 3) := by decide +kernel
theorem dX2_ruled_37 : decode cX2_ruled 37 = .ok (.ireturn, 1) := by decide +kernel
theorem dX2_ruled_38 : decode cX2_ruled 38 = .ok (.aload_n 0, 1) := by decide +kernel
theorem dX2_ruled_39 : decode cX2_ruled 39 = .ok (.getfield 39, 3) := by decide +kernel
theorem dX2_ruled_42 : decode cX2_ruled 42 = .ok (.ireturn, 1) := by decide +kernel
theorem dX2_setRule_0 : decode cX2_setRule 0 = .ok (.iload_n 1, 1) := by decide +kernel
theorem dX2_setRule_1 : decode cX2_setRule 1 = .ok (.lookupswitch 43 #[(0, 27), (1, 35)], 27) := by decide +kernel
theorem dX2_setRule_28 : decode cX2_setRule 28 = .ok (.aload_n 0, 1) := by decide +kernel
theorem dX2_setRule_29 : decode cX2_setRule 29 = .ok (.iload_n 2, 1) := by decide +kernel
theorem dX2_setRule_30 : decode cX2_setRule 30 = .ok (.putfield 32, 3) := by decide +kernel
theorem dX2_setRule_33 : decode cX2_setRule 33 = .ok (.goto 16, 3) := by decide +kernel
theorem dX2_setRule_36 : decode cX2_setRule 36 = .ok (.aload_n 0, 1) := by decide +kernel
theorem dX2_setRule_37 : decode cX2_setRule 37 = .ok (.iload_n 2, 1) := by decide +kernel
theorem dX2_setRule_38 : decode cX2_setRule 38 = .ok (.putfield 36, 3) := by decide +kernel
theorem dX2_setRule_41 : decode cX2_setRule 41 = .ok (.goto 8, 3) := by decide +kernel
theorem dX2_setRule_44 : decode cX2_setRule 44 = .ok (.aload_n 0, 1) := by decide +kernel
theorem dX2_setRule_45 : decode cX2_setRule 45 = .ok (.iload_n 2, 1) := by decide +kernel
theorem dX2_setRule_46 : decode cX2_setRule 46 = .ok (.putfield 39, 3) := by decide +kernel
theorem dX2_setRule_49 : decode cX2_setRule 49 = .ok (.return_, 1) := by decide +kernel
theorem dX2_addShovels_0 : decode cX2_addShovels 0 = .ok (.aload_n 0, 1) := by decide +kernel
theorem dX2_addShovels_1 : decode cX2_addShovels 1 = .ok (.getfield 25, 3) := by decide +kernel
theorem dX2_addShovels_4 : decode cX2_addShovels 4 = .ok (.aload_n 0, 1) := by decide +kernel
theorem dX2_addShovels_5 : decode cX2_addShovels 5 = .ok (.getfield 42, 3) := by decide +kernel
theorem dX2_addShovels_8 : decode cX2_addShovels 8 = .ok (.bipush 7, 2) := by decide +kernel
theorem dX2_addShovels_10 : decode cX2_addShovels 10 = .ok (.iadd, 1) := by decide +kernel
theorem dX2_addShovels_11 : decode cX2_addShovels 11 = .ok (.iconst 1, 1) := by decide +kernel
theorem dX2_addShovels_12 : decode cX2_addShovels 12 = .ok (.isub, 1) := by decide +kernel
theorem dX2_addShovels_13 : decode cX2_addShovels 13 = .ok (.bipush 7, 2) := by decide +kernel
theorem dX2_addShovels_15 : decode cX2_addShovels 15 = .ok (.irem, 1) := by decide +kernel
theorem dX2_addShovels_16 : decode cX2_addShovels 16 = .ok (.dup2, 1) := by decide +kernel
theorem dX2_addShovels_17 : decode cX2_addShovels 17 = .ok (.iaload, 1) := by decide +kernel
theorem dX2_addShovels_18 : decode cX2_addShovels 18 = .ok (.iload_n 1, 1) := by decide +kernel
theorem dX2_addShovels_19 : decode cX2_addShovels 19 = .ok (.iadd, 1) := by decide +kernel
theorem dX2_addShovels_20 : decode cX2_addShovels 20 = .ok (.iastore, 1) := by decide +kernel
theorem dX2_addShovels_21 : decode cX2_addShovels 21 = .ok (.return_, 1) := by decide +kernel
theorem dX2_shovelsDue_0 : decode cX2_shovelsDue 0 = .ok (.iconst 0, 1) := by decide +kernel
theorem dX2_shovelsDue_1 : decode cX2_shovelsDue 1 = .ok (.istore_n 1, 1) := by decide +kernel
theorem dX2_shovelsDue_2 : decode cX2_shovelsDue 2 = .ok (.iconst 0, 1) := by decide +kernel
theorem dX2_shovelsDue_3 : decode cX2_shovelsDue 3 = .ok (.istore_n 2, 1) := by decide +kernel
theorem dX2_shovelsDue_4 : decode cX2_shovelsDue 4 = .ok (.iload_n 2, 1) := by decide +kernel
theorem dX2_shovelsDue_5 : decode cX2_shovelsDue 5 = .ok (.bipush 7, 2) := by decide +kernel
theorem dX2_shovelsDue_7 : decode cX2_shovelsDue 7 = .ok (.if_icmp .ge 18, 3) := by decide +kernel
theorem dX2_shovelsDue_10 : decode cX2_shovelsDue 10 = .ok (.iload_n 1, 1) := by decide +kernel
theorem dX2_shovelsDue_11 : decode cX2_shovelsDue 11 = .ok (.aload_n 0, 1) := by decide +kernel
theorem dX2_shovelsDue_12 : decode cX2_shovelsDue 12 = .ok (.getfield 25, 3) := by decide +kernel
theorem dX2_shovelsDue_15 : decode cX2_shovelsDue 15 = .ok (.iload_n 2, 1) := by decide +kernel
theorem dX2_shovelsDue_16 : decode cX2_shovelsDue 16 = .ok (.iaload, 1) := by decide +kernel
theorem dX2_shovelsDue_17 : decode cX2_shovelsDue 17 = .ok (.iadd, 1) := by decide +kernel
theorem dX2_shovelsDue_18 : decode cX2_shovelsDue 18 = .ok (.istore_n 1, 1) := by decide +kernel
theorem dX2_shovelsDue_19 : decode cX2_shovelsDue 19 = .ok (.iinc 2 1, 3) := by decide +kernel
theorem dX2_shovelsDue_22 : decode cX2_shovelsDue 22 = .ok (.goto (-18), 3) := by decide +kernel
theorem dX2_shovelsDue_25 : decode cX2_shovelsDue 25 = .ok (.iload_n 1, 1) := by decide +kernel
theorem dX2_shovelsDue_26 : decode cX2_shovelsDue 26 = .ok (.ireturn, 1) := by decide +kernel
theorem dX2_setOut_0 : decode cX2_setOut 0 = .ok (.aload_n 0, 1) := by decide +kernel
theorem dX2_setOut_1 : decode cX2_setOut 1 = .ok (.iload_n 1, 1) := by decide +kernel
theorem dX2_setOut_2 : decode cX2_setOut 2 = .ok (.aload_n 0, 1) := by decide +kernel
theorem dX2_setOut_3 : decode cX2_setOut 3 = .ok (.getfield 48, 3) := by decide +kernel
theorem dX2_setOut_6 : decode cX2_setOut 6 = .ok (.isub, 1) := by decide +kernel
theorem dX2_setOut_7 : decode cX2_setOut 7 = .ok (.invokestatic 79, 3) := by decide +kernel
theorem dX2_setOut_10 : decode cX2_setOut 10 = .ok (.iconst 3, 1) := by decide +kernel
theorem dX2_setOut_11 : decode cX2_setOut 11 = .ok (.imul, 1) := by decide +kernel
theorem dX2_setOut_12 : decode cX2_setOut 12 = .ok (.putfield 51, 3) := by decide +kernel
theorem dX2_setOut_15 : decode cX2_setOut 15 = .ok (.aload_n 0, 1) := by decide +kernel
theorem dX2_setOut_16 : decode cX2_setOut 16 = .ok (.iload_n 1, 1) := by decide +kernel
theorem dX2_setOut_17 : decode cX2_setOut 17 = .ok (.putfield 48, 3) := by decide +kernel
theorem dX2_setOut_20 : decode cX2_setOut 20 = .ok (.return_, 1) := by decide +kernel
theorem dX2_coming_0 : decode cX2_coming 0 = .ok (.aload_n 0, 1) := by decide +kernel
theorem dX2_coming_1 : decode cX2_coming 1 = .ok (.getfield 21, 3) := by decide +kernel
theorem dX2_coming_4 : decode cX2_coming 4 = .ok (.getfield 85, 3) := by decide +kernel
theorem dX2_coming_7 : decode cX2_coming 7 = .ok (.iload_n 1, 1) := by decide +kernel
theorem dX2_coming_8 : decode cX2_coming 8 = .ok (.iaload, 1) := by decide +kernel
theorem dX2_coming_9 : decode cX2_coming 9 = .ok (.aload_n 0, 1) := by decide +kernel
theorem dX2_coming_10 : decode cX2_coming 10 = .ok (.getfield 39, 3) := by decide +kernel
theorem dX2_coming_13 : decode cX2_coming 13 = .ok (.iconst 1, 1) := by decide +kernel
theorem dX2_coming_14 : decode cX2_coming 14 = .ok (.iadd, 1) := by decide +kernel
theorem dX2_coming_15 : decode cX2_coming 15 = .ok (.imul, 1) := by decide +kernel
theorem dX2_coming_16 : decode cX2_coming 16 = .ok (.bipush 11, 2) := by decide +kernel
theorem dX2_coming_18 : decode cX2_coming 18 = .ok (.idiv, 1) := by decide +kernel
theorem dX2_coming_19 : decode cX2_coming 19 = .ok (.istore_n 2, 1) := by decide +kernel
theorem dX2_coming_20 : decode cX2_coming 20 = .ok (.iload_n 2, 1) := by decide +kernel
theorem dX2_coming_21 : decode cX2_coming 21 = .ok (.iload_n 2, 1) := by decide +kernel
theorem dX2_coming_22 : decode cX2_coming 22 = .ok (.aload_n 0, 1) := by decide +kernel
theorem dX2_coming_23 : decode cX2_coming 23 = .ok (.getfield 36, 3) := by decide +kernel
theorem dX2_coming_26 : decode cX2_coming 26 = .ok (.imul, 1) := by decide +kernel
theorem dX2_coming_27 : decode cX2_coming 27 = .ok (.bipush 100, 2) := by decide +kernel
theorem dX2_coming_29 : decode cX2_coming 29 = .ok (.idiv, 1) := by decide +kernel
theorem dX2_coming_30 : decode cX2_coming 30 = .ok (.isub, 1) := by decide +kernel
theorem dX2_coming_31 : decode cX2_coming 31 = .ok (.ireturn, 1) := by decide +kernel
theorem dX2_draw_0 : decode cX2_draw 0 = .ok (.aload_n 0, 1) := by decide +kernel
theorem dX2_draw_1 : decode cX2_draw 1 = .ok (.aload_n 0, 1) := by decide +kernel
theorem dX2_draw_2 : decode cX2_draw 2 = .ok (.getfield 63, 3) := by decide +kernel
theorem dX2_draw_5 : decode cX2_draw 5 = .ok (.ldc 88, 2) := by decide +kernel
theorem dX2_draw_7 : decode cX2_draw 7 = .ok (.imul, 1) := by decide +kernel
theorem dX2_draw_8 : decode cX2_draw 8 = .ok (.sipush 12345, 3) := by decide +kernel
theorem dX2_draw_11 : decode cX2_draw 11 = .ok (.iadd, 1) := by decide +kernel
theorem dX2_draw_12 : decode cX2_draw 12 = .ok (.putfield 63, 3) := by decide +kernel
theorem dX2_draw_15 : decode cX2_draw 15 = .ok (.aload_n 0, 1) := by decide +kernel
theorem dX2_draw_16 : decode cX2_draw 16 = .ok (.getfield 63, 3) := by decide +kernel
theorem dX2_draw_19 : decode cX2_draw 19 = .ok (.bipush 8, 2) := by decide +kernel
theorem dX2_draw_21 : decode cX2_draw 21 = .ok (.iushr, 1) := by decide +kernel
theorem dX2_draw_22 : decode cX2_draw 22 = .ok (.ireturn, 1) := by decide +kernel
theorem dX2_spotsHolding_0 : decode cX2_spotsHolding 0 = .ok (.iconst 0, 1) := by decide +kernel
theorem dX2_spotsHolding_1 : decode cX2_spotsHolding 1 = .ok (.istore_n 1, 1) := by decide +kernel
theorem dX2_spotsHolding_2 : decode cX2_spotsHolding 2 = .ok (.iconst 0, 1) := by decide +kernel
theorem dX2_spotsHolding_3 : decode cX2_spotsHolding 3 = .ok (.istore_n 2, 1) := by decide +kernel
theorem dX2_spotsHolding_4 : decode cX2_spotsHolding 4 = .ok (.iload_n 2, 1) := by decide +kernel
theorem dX2_spotsHolding_5 : decode cX2_spotsHolding 5 = .ok (.bipush 10, 2) := by decide +kernel
theorem dX2_spotsHolding_7 : decode cX2_spotsHolding 7 = .ok (.if_icmp .ge 21, 3) := by decide +kernel
theorem dX2_spotsHolding_10 : decode cX2_spotsHolding 10 = .ok (.aload_n 0, 1) := by decide +kernel
theorem dX2_spotsHolding_11 : decode cX2_spotsHolding 11 = .ok (.getfield 29, 3) := by decide +kernel
theorem dX2_spotsHolding_14 : decode cX2_spotsHolding 14 = .ok (.iload_n 2, 1) := by decide +kernel
theorem dX2_spotsHolding_15 : decode cX2_spotsHolding 15 = .ok (.iaload, 1) := by decide +kernel
theorem dX2_spotsHolding_16 : decode cX2_spotsHolding 16 = .ok (.ifCond .lt 6, 3) := by decide +kernel
theorem dX2_spotsHolding_19 : decode cX2_spotsHolding 19 = .ok (.iinc 1 1, 3) := by decide +kernel
theorem dX2_spotsHolding_22 : decode cX2_spotsHolding 22 = .ok (.iinc 2 1, 3) := by decide +kernel
theorem dX2_spotsHolding_25 : decode cX2_spotsHolding 25 = .ok (.goto (-21), 3) := by decide +kernel
theorem dX2_spotsHolding_28 : decode cX2_spotsHolding 28 = .ok (.iload_n 1, 1) := by decide +kernel
theorem dX2_spotsHolding_29 : decode cX2_spotsHolding 29 = .ok (.ireturn, 1) := by decide +kernel
theorem dX2_pass_0 : decode cX2_pass 0 = .ok (.aload_n 0, 1) := by decide +kernel
theorem dX2_pass_1 : decode cX2_pass 1 = .ok (.getfield 45, 3) := by decide +kernel
theorem dX2_pass_4 : decode cX2_pass 4 = .ok (.istore_n 2, 1) := by decide +kernel
theorem dX2_pass_5 : decode cX2_pass 5 = .ok (.iconst 0, 1) := by decide +kernel
theorem dX2_pass_6 : decode cX2_pass 6 = .ok (.istore_n 3, 1) := by decide +kernel
theorem dX2_pass_7 : decode cX2_pass 7 = .ok (.iload_n 3, 1) := by decide +kernel
theorem dX2_pass_8 : decode cX2_pass 8 = .ok (.iload_n 1, 1) := by decide +kernel
theorem dX2_pass_9 : decode cX2_pass 9 = .ok (.if_icmp .ge 74, 3) := by decide +kernel
theorem dX2_pass_12 : decode cX2_pass 12 = .ok (.aload_n 0, 1) := by decide +kernel
theorem dX2_pass_13 : decode cX2_pass 13 = .ok (.invokevirtual 89, 3) := by decide +kernel
theorem dX2_pass_16 : decode cX2_pass 16 = .ok (.aload_n 0, 1) := by decide +kernel
theorem dX2_pass_17 : decode cX2_pass 17 = .ok (.dup, 1) := by decide +kernel
theorem dX2_pass_18 : decode cX2_pass 18 = .ok (.getfield 57, 3) := by decide +kernel
theorem dX2_pass_21 : decode cX2_pass 21 = .ok (.aload_n 0, 1) := by decide +kernel
theorem dX2_pass_22 : decode cX2_pass 22 = .ok (.getfield 12, 3) := by decide +kernel
theorem dX2_pass_25 : decode cX2_pass 25 = .ok (.aload_n 0, 1) := by decide +kernel
theorem dX2_pass_26 : decode cX2_pass 26 = .ok (.getfield 32, 3) := by decide +kernel
theorem dX2_pass_29 : decode cX2_pass 29 = .ok (.invokevirtual 92, 3) := by decide +kernel
theorem dX2_pass_32 : decode cX2_pass 32 = .ok (.iadd, 1) := by decide +kernel
theorem dX2_pass_33 : decode cX2_pass 33 = .ok (.putfield 57, 3) := by decide +kernel
theorem dX2_pass_36 : decode cX2_pass 36 = .ok (.aload_n 0, 1) := by decide +kernel
theorem dX2_pass_37 : decode cX2_pass 37 = .ok (.getfield 12, 3) := by decide +kernel
theorem dX2_pass_40 : decode cX2_pass 40 = .ok (.invokevirtual 95, 3) := by decide +kernel
theorem dX2_pass_43 : decode cX2_pass 43 = .ok (.aload_n 0, 1) := by decide +kernel
theorem dX2_pass_44 : decode cX2_pass 44 = .ok (.getfield 51, 3) := by decide +kernel
theorem dX2_pass_47 : decode cX2_pass 47 = .ok (.ifCond .le 16, 3) := by decide +kernel
theorem dX2_pass_50 : decode cX2_pass 50 = .ok (.aload_n 0, 1) := by decide +kernel
theorem dX2_pass_51 : decode cX2_pass 51 = .ok (.dup, 1) := by decide +kernel
theorem dX2_pass_52 : decode cX2_pass 52 = .ok (.getfield 51, 3) := by decide +kernel
theorem dX2_pass_55 : decode cX2_pass 55 = .ok (.iconst 1, 1) := by decide +kernel
theorem dX2_pass_56 : decode cX2_pass 56 = .ok (.isub, 1) := by decide +kernel
theorem dX2_pass_57 : decode cX2_pass 57 = .ok (.putfield 51, 3) := by decide +kernel
theorem dX2_pass_60 : decode cX2_pass 60 = .ok (.goto 7, 3) := by decide +kernel
theorem dX2_pass_63 : decode cX2_pass 63 = .ok (.aload_n 0, 1) := by decide +kernel
theorem dX2_pass_64 : decode cX2_pass 64 = .ok (.invokevirtual 98, 3) := by decide +kernel
theorem dX2_pass_67 : decode cX2_pass 67 = .ok (.aload_n 0, 1) := by decide +kernel
theorem dX2_pass_68 : decode cX2_pass 68 = .ok (.dup, 1) := by decide +kernel
theorem dX2_pass_69 : decode cX2_pass 69 = .ok (.getfield 42, 3) := by decide +kernel
theorem dX2_pass_72 : decode cX2_pass 72 = .ok (.iconst 1, 1) := by decide +kernel
theorem dX2_pass_73 : decode cX2_pass 73 = .ok (.iadd, 1) := by decide +kernel
theorem dX2_pass_74 : decode cX2_pass 74 = .ok (.putfield 42, 3) := by decide +kernel
theorem dX2_pass_77 : decode cX2_pass 77 = .ok (.iinc 3 1, 3) := by decide +kernel
theorem dX2_pass_80 : decode cX2_pass 80 = .ok (.goto (-73), 3) := by decide +kernel
theorem dX2_pass_83 : decode cX2_pass 83 = .ok (.aload_n 0, 1) := by decide +kernel
theorem dX2_pass_84 : decode cX2_pass 84 = .ok (.getfield 45, 3) := by decide +kernel
theorem dX2_pass_87 : decode cX2_pass 87 = .ok (.iload_n 2, 1) := by decide +kernel
theorem dX2_pass_88 : decode cX2_pass 88 = .ok (.isub, 1) := by decide +kernel
theorem dX2_pass_89 : decode cX2_pass 89 = .ok (.ireturn, 1) := by decide +kernel
theorem dX2_warm_0 : decode cX2_warm 0 = .ok (.aload_n 0, 1) := by decide +kernel
theorem dX2_warm_1 : decode cX2_warm 1 = .ok (.getfield 42, 3) := by decide +kernel
theorem dX2_warm_4 : decode cX2_warm 4 = .ok (.bipush 7, 2) := by decide +kernel
theorem dX2_warm_6 : decode cX2_warm 6 = .ok (.irem, 1) := by decide +kernel
theorem dX2_warm_7 : decode cX2_warm 7 = .ok (.istore_n 1, 1) := by decide +kernel
theorem dX2_warm_8 : decode cX2_warm 8 = .ok (.aload_n 0, 1) := by decide +kernel
theorem dX2_warm_9 : decode cX2_warm 9 = .ok (.bipush 20, 2) := by decide +kernel
theorem dX2_warm_11 : decode cX2_warm 11 = .ok (.aload_n 0, 1) := by decide +kernel
theorem dX2_warm_12 : decode cX2_warm 12 = .ok (.getfield 32, 3) := by decide +kernel
theorem dX2_warm_15 : decode cX2_warm 15 = .ok (.iconst 3, 1) := by decide +kernel
theorem dX2_warm_16 : decode cX2_warm 16 = .ok (.aload_n 0, 1) := by decide +kernel
theorem dX2_warm_17 : decode cX2_warm 17 = .ok (.getfield 25, 3) := by decide +kernel
theorem dX2_warm_20 : decode cX2_warm 20 = .ok (.iload_n 1, 1) := by decide +kernel
theorem dX2_warm_21 : decode cX2_warm 21 = .ok (.iaload, 1) := by decide +kernel
theorem dX2_warm_22 : decode cX2_warm 22 = .ok (.imul, 1) := by decide +kernel
theorem dX2_warm_23 : decode cX2_warm 23 = .ok (.iadd, 1) := by decide +kernel
theorem dX2_warm_24 : decode cX2_warm 24 = .ok (.invokestatic 101, 3) := by decide +kernel
theorem dX2_warm_27 : decode cX2_warm 27 = .ok (.putfield 32, 3) := by decide +kernel
theorem dX2_warm_30 : decode cX2_warm 30 = .ok (.aload_n 0, 1) := by decide +kernel
theorem dX2_warm_31 : decode cX2_warm 31 = .ok (.getfield 25, 3) := by decide +kernel
theorem dX2_warm_34 : decode cX2_warm 34 = .ok (.iload_n 1, 1) := by decide +kernel
theorem dX2_warm_35 : decode cX2_warm 35 = .ok (.iconst 0, 1) := by decide +kernel
theorem dX2_warm_36 : decode cX2_warm 36 = .ok (.iastore, 1) := by decide +kernel
theorem dX2_warm_37 : decode cX2_warm 37 = .ok (.aload_n 0, 1) := by decide +kernel
theorem dX2_warm_38 : decode cX2_warm 38 = .ok (.getfield 42, 3) := by decide +kernel
theorem dX2_warm_41 : decode cX2_warm 41 = .ok (.iconst 5, 1) := by decide +kernel
theorem dX2_warm_42 : decode cX2_warm 42 = .ok (.irem, 1) := by decide +kernel
theorem dX2_warm_43 : decode cX2_warm 43 = .ok (.iconst 4, 1) := by decide +kernel
theorem dX2_warm_44 : decode cX2_warm 44 = .ok (.if_icmp .ne 17, 3) := by decide +kernel
theorem dX2_warm_47 : decode cX2_warm 47 = .ok (.aload_n 0, 1) := by decide +kernel
theorem dX2_warm_48 : decode cX2_warm 48 = .ok (.iconst 0, 1) := by decide +kernel
theorem dX2_warm_49 : decode cX2_warm 49 = .ok (.aload_n 0, 1) := by decide +kernel
theorem dX2_warm_50 : decode cX2_warm 50 = .ok (.getfield 32, 3) := by decide +kernel
theorem dX2_warm_53 : decode cX2_warm 53 = .ok (.iconst 1, 1) := by decide +kernel
theorem dX2_warm_54 : decode cX2_warm 54 = .ok (.isub, 1) := by decide +kernel
theorem dX2_warm_55 : decode cX2_warm 55 = .ok (.invokestatic 105, 3) := by decide +kernel
theorem dX2_warm_58 : decode cX2_warm 58 = .ok (.putfield 32, 3) := by decide +kernel
theorem dX2_warm_61 : decode cX2_warm 61 = .ok (.return_, 1) := by decide +kernel
theorem dX2_serve_0 : decode cX2_serve 0 = .ok (.iconst 0, 1) := by decide +kernel
theorem dX2_serve_1 : decode cX2_serve 1 = .ok (.istore_n 1, 1) := by decide +kernel
theorem dX2_serve_2 : decode cX2_serve 2 = .ok (.iload_n 1, 1) := by decide +kernel
theorem dX2_serve_3 : decode cX2_serve 3 = .ok (.aload_n 0, 1) := by decide +kernel
theorem dX2_serve_4 : decode cX2_serve 4 = .ok (.getfield 21, 3) := by decide +kernel
theorem dX2_serve_7 : decode cX2_serve 7 = .ok (.getfield 108, 3) := by decide +kernel
theorem dX2_serve_10 : decode cX2_serve 10 = .ok (.if_icmp .ge 74, 3) := by decide +kernel
theorem dX2_serve_13 : decode cX2_serve 13 = .ok (.aload_n 0, 1) := by decide +kernel
theorem dX2_serve_14 : decode cX2_serve 14 = .ok (.getfield 21, 3) := by decide +kernel
theorem dX2_serve_17 : decode cX2_serve 17 = .ok (.getfield 111, 3) := by decide +kernel
theorem dX2_serve_20 : decode cX2_serve 20 = .ok (.iload_n 1, 1) := by decide +kernel
theorem dX2_serve_21 : decode cX2_serve 21 = .ok (.iaload, 1) := by decide +kernel
theorem dX2_serve_22 : decode cX2_serve 22 = .ok (.aload_n 0, 1) := by decide +kernel
theorem dX2_serve_23 : decode cX2_serve 23 = .ok (.getfield 48, 3) := by decide +kernel
theorem dX2_serve_26 : decode cX2_serve 26 = .ok (.if_icmp .ne 52, 3) := by decide +kernel
theorem dX2_serve_29 : decode cX2_serve 29 = .ok (.aload_n 0, 1) := by decide +kernel
theorem dX2_serve_30 : decode cX2_serve 30 = .ok (.getfield 21, 3) := by decide +kernel
theorem dX2_serve_33 : decode cX2_serve 33 = .ok (.getfield 113, 3) := by decide +kernel
theorem dX2_serve_36 : decode cX2_serve 36 = .ok (.iload_n 1, 1) := by decide +kernel
theorem dX2_serve_37 : decode cX2_serve 37 = .ok (.iaload, 1) := by decide +kernel
theorem dX2_serve_38 : decode cX2_serve 38 = .ok (.aload_n 0, 1) := by decide +kernel
theorem dX2_serve_39 : decode cX2_serve 39 = .ok (.getfield 42, 3) := by decide +kernel
theorem dX2_serve_42 : decode cX2_serve 42 = .ok (.if_icmp .ne 36, 3) := by decide +kernel
theorem dX2_serve_45 : decode cX2_serve 45 = .ok (.aload_n 0, 1) := by decide +kernel
theorem dX2_serve_46 : decode cX2_serve 46 = .ok (.aload_n 0, 1) := by decide +kernel
theorem dX2_serve_47 : decode cX2_serve 47 = .ok (.iload_n 1, 1) := by decide +kernel
theorem dX2_serve_48 : decode cX2_serve 48 = .ok (.invokevirtual 115, 3) := by decide +kernel
theorem dX2_serve_51 : decode cX2_serve 51 = .ok (.iconst 0, 1) := by decide +kernel
theorem dX2_serve_52 : decode cX2_serve 52 = .ok (.bipush 10, 2) := by decide +kernel
theorem dX2_serve_54 : decode cX2_serve 54 = .ok (.iconst 1, 1) := by decide +kernel
theorem dX2_serve_55 : decode cX2_serve 55 = .ok (.invokevirtual 118, 3) := by decide +kernel
theorem dX2_serve_58 : decode cX2_serve 58 = .ok (.istore_n 2, 1) := by decide +kernel
theorem dX2_serve_59 : decode cX2_serve 59 = .ok (.aload_n 0, 1) := by decide +kernel
theorem dX2_serve_60 : decode cX2_serve 60 = .ok (.dup, 1) := by decide +kernel
theorem dX2_serve_61 : decode cX2_serve 61 = .ok (.getfield 60, 3) := by decide +kernel
theorem dX2_serve_64 : decode cX2_serve 64 = .ok (.aload_n 0, 1) := by decide +kernel
theorem dX2_serve_65 : decode cX2_serve 65 = .ok (.iload_n 2, 1) := by decide +kernel
theorem dX2_serve_66 : decode cX2_serve 66 = .ok (.bipush 11, 2) := by decide +kernel
theorem dX2_serve_68 : decode cX2_serve 68 = .ok (.bipush 25, 2) := by decide +kernel
theorem dX2_serve_70 : decode cX2_serve 70 = .ok (.iconst 2, 1) := by decide +kernel
theorem dX2_serve_71 : decode cX2_serve 71 = .ok (.invokevirtual 118, 3) := by decide +kernel
theorem dX2_serve_74 : decode cX2_serve 74 = .ok (.iadd, 1) := by decide +kernel
theorem dX2_serve_75 : decode cX2_serve 75 = .ok (.putfield 60, 3) := by decide +kernel
theorem dX2_serve_78 : decode cX2_serve 78 = .ok (.iinc 1 1, 3) := by decide +kernel
theorem dX2_serve_81 : decode cX2_serve 81 = .ok (.goto (-79), 3) := by decide +kernel
theorem dX2_serve_84 : decode cX2_serve 84 = .ok (.return_, 1) := by decide +kernel
theorem dX2_sell_0 : decode cX2_sell 0 = .ok (.iload_n 1, 1) := by decide +kernel
theorem dX2_sell_1 : decode cX2_sell 1 = .ok (.istore 5, 2) := by decide +kernel
theorem dX2_sell_3 : decode cX2_sell 3 = .ok (.iconst 0, 1) := by decide +kernel
theorem dX2_sell_4 : decode cX2_sell 4 = .ok (.istore 6, 2) := by decide +kernel
theorem dX2_sell_6 : decode cX2_sell 6 = .ok (.iload 6, 2) := by decide +kernel
theorem dX2_sell_8 : decode cX2_sell 8 = .ok (.bipush 10, 2) := by decide +kernel
theorem dX2_sell_10 : decode cX2_sell 10 = .ok (.if_icmp .ge 129, 3) := by decide +kernel
theorem dX2_sell_13 : decode cX2_sell 13 = .ok (.iload 5, 2) := by decide +kernel
theorem dX2_sell_15 : decode cX2_sell 15 = .ok (.ifCond .le 124, 3) := by decide +kernel
theorem dX2_sell_18 : decode cX2_sell 18 = .ok (.aload_n 0, 1) := by decide +kernel
theorem dX2_sell_19 : decode cX2_sell 19 = .ok (.getfield 12, 3) := by decide +kernel
theorem dX2_sell_22 : decode cX2_sell 22 = .ok (.iload_n 2, 1) := by decide +kernel
theorem dX2_sell_23 : decode cX2_sell 23 = .ok (.iload_n 3, 1) := by decide +kernel
theorem dX2_sell_24 : decode cX2_sell 24 = .ok (.invokevirtual 122, 3) := by decide +kernel
theorem dX2_sell_27 : decode cX2_sell 27 = .ok (.istore 7, 2) := by decide +kernel
theorem dX2_sell_29 : decode cX2_sell 29 = .ok (.iload 7, 2) := by decide +kernel
theorem dX2_sell_31 : decode cX2_sell 31 = .ok (.ifCond .ge 6, 3) := by decide +kernel
theorem dX2_sell_34 : decode cX2_sell 34 = .ok (.iload 5, 2) := by decide +kernel
theorem dX2_sell_36 : decode cX2_sell 36 = .ok (.ireturn, 1) := by decide +kernel
theorem dX2_sell_37 : decode cX2_sell 37 = .ok (.iload 5, 2) := by decide +kernel
theorem dX2_sell_39 : decode cX2_sell 39 = .ok (.aload_n 0, 1) := by decide +kernel
theorem dX2_sell_40 : decode cX2_sell 40 = .ok (.getfield 12, 3) := by decide +kernel
theorem dX2_sell_43 : decode cX2_sell 43 = .ok (.getfield 125, 3) := by decide +kernel
theorem dX2_sell_46 : decode cX2_sell 46 = .ok (.iload 7, 2) := by decide +kernel
theorem dX2_sell_48 : decode cX2_sell 48 = .ok (.iaload, 1) := by decide +kernel
theorem dX2_sell_49 : decode cX2_sell 49 = .ok (.invokestatic 101, 3) := by decide +kernel
theorem dX2_sell_52 : decode cX2_sell 52 = .ok (.istore 8, 2) := by decide +kernel
theorem dX2_sell_54 : decode cX2_sell 54 = .ok (.aload_n 0, 1) := by decide +kernel
theorem dX2_sell_55 : decode cX2_sell 55 = .ok (.getfield 12, 3) := by decide +kernel
theorem dX2_sell_58 : decode cX2_sell 58 = .ok (.getfield 128, 3) := by decide +kernel
theorem dX2_sell_61 : decode cX2_sell 61 = .ok (.iload 7, 2) := by decide +kernel
theorem dX2_sell_63 : decode cX2_sell 63 = .ok (.iaload, 1) := by decide +kernel
theorem dX2_sell_64 : decode cX2_sell 64 = .ok (.aload_n 0, 1) := by decide +kernel
theorem dX2_sell_65 : decode cX2_sell 65 = .ok (.getfield 36, 3) := by decide +kernel
theorem dX2_sell_68 : decode cX2_sell 68 = .ok (.invokestatic 131, 3) := by decide +kernel
theorem dX2_sell_71 : decode cX2_sell 71 = .ok (.istore 9, 2) := by decide +kernel
theorem dX2_sell_73 : decode cX2_sell 73 = .ok (.aload_n 0, 1) := by decide +kernel
theorem dX2_sell_74 : decode cX2_sell 74 = .ok (.getfield 12, 3) := by decide +kernel
theorem dX2_sell_77 : decode cX2_sell 77 = .ok (.getfield 125, 3) := by decide +kernel
theorem dX2_sell_80 : decode cX2_sell 80 = .ok (.iload 7, 2) := by decide +kernel
theorem dX2_sell_82 : decode cX2_sell 82 = .ok (.dup2, 1) := by decide +kernel
theorem dX2_sell_83 : decode cX2_sell 83 = .ok (.iaload, 1) := by decide +kernel
theorem dX2_sell_84 : decode cX2_sell 84 = .ok (.iload 8, 2) := by decide +kernel
theorem dX2_sell_86 : decode cX2_sell 86 = .ok (.isub, 1) := by decide +kernel
theorem dX2_sell_87 : decode cX2_sell 87 = .ok (.iastore, 1) := by decide +kernel
theorem dX2_sell_88 : decode cX2_sell 88 = .ok (.aload_n 0, 1) := by decide +kernel
theorem dX2_sell_89 : decode cX2_sell 89 = .ok (.dup, 1) := by decide +kernel
theorem dX2_sell_90 : decode cX2_sell 90 = .ok (.getfield 45, 3) := by decide +kernel
theorem dX2_sell_93 : decode cX2_sell 93 = .ok (.iload 8, 2) := by decide +kernel
theorem dX2_sell_95 : decode cX2_sell 95 = .ok (.iload 4, 2) := by decide +kernel
theorem dX2_sell_97 : decode cX2_sell 97 = .ok (.iconst 2, 1) := by decide +kernel
theorem dX2_sell_98 : decode cX2_sell 98 = .ok (.if_icmp .ne 10, 3) := by decide +kernel
theorem dX2_sell_101 : decode cX2_sell 101 = .ok (.iload 9, 2) := by decide +kernel
theorem dX2_sell_103 : decode cX2_sell 103 = .ok (.iconst 2, 1) := by decide +kernel
theorem dX2_sell_104 : decode cX2_sell 104 = .ok (.idiv, 1) := by decide +kernel
theorem dX2_sell_105 : decode cX2_sell 105 = .ok (.goto 5, 3) := by decide +kernel
theorem dX2_sell_108 : decode cX2_sell 108 = .ok (.iload 9, 2) := by decide +kernel
theorem dX2_sell_110 : decode cX2_sell 110 = .ok (.imul, 1) := by decide +kernel
theorem dX2_sell_111 : decode cX2_sell 111 = .ok (.iadd, 1) := by decide +kernel
theorem dX2_sell_112 : decode cX2_sell 112 = .ok (.putfield 45, 3) := by decide +kernel
theorem dX2_sell_115 : decode cX2_sell 115 = .ok (.aload_n 0, 1) := by decide +kernel
theorem dX2_sell_116 : decode cX2_sell 116 = .ok (.dup, 1) := by decide +kernel
theorem dX2_sell_117 : decode cX2_sell 117 = .ok (.getfield 54, 3) := by decide +kernel
theorem dX2_sell_120 : decode cX2_sell 120 = .ok (.iload 8, 2) := by decide +kernel
theorem dX2_sell_122 : decode cX2_sell 122 = .ok (.iadd, 1) := by decide +kernel
theorem dX2_sell_123 : decode cX2_sell 123 = .ok (.putfield 54, 3) := by decide +kernel
theorem dX2_sell_126 : decode cX2_sell 126 = .ok (.iload 5, 2) := by decide +kernel
theorem dX2_sell_128 : decode cX2_sell 128 = .ok (.iload 8, 2) := by decide +kernel
theorem dX2_sell_130 : decode cX2_sell 130 = .ok (.isub, 1) := by decide +kernel
theorem dX2_sell_131 : decode cX2_sell 131 = .ok (.istore 5, 2) := by decide +kernel
theorem dX2_sell_133 : decode cX2_sell 133 = .ok (.iinc 6 1, 3) := by decide +kernel
theorem dX2_sell_136 : decode cX2_sell 136 = .ok (.goto (-130), 3) := by decide +kernel
theorem dX2_sell_139 : decode cX2_sell 139 = .ok (.iload 5, 2) := by decide +kernel
theorem dX2_sell_141 : decode cX2_sell 141 = .ok (.ireturn, 1) := by decide +kernel
theorem dX3_above_0 : decode cX3_above 0 = .ok (.iload_n 0, 1) := by decide +kernel
theorem dX3_above_1 : decode cX3_above 1 = .ok (.tableswitch 37 3 6 #[31, 33, 37, 35], 31) := by decide +kernel
theorem dX3_above_32 : decode cX3_above 32 = .ok (.iconst 1, 1) := by decide +kernel
theorem dX3_above_33 : decode cX3_above 33 = .ok (.ireturn, 1) := by decide +kernel
theorem dX3_above_34 : decode cX3_above 34 = .ok (.iconst 2, 1) := by decide +kernel
theorem dX3_above_35 : decode cX3_above 35 = .ok (.ireturn, 1) := by decide +kernel
theorem dX3_above_36 : decode cX3_above 36 = .ok (.iconst 5, 1) := by decide +kernel
theorem dX3_above_37 : decode cX3_above 37 = .ok (.ireturn, 1) := by decide +kernel
theorem dX3_above_38 : decode cX3_above 38 = .ok (.iconst 0, 1) := by decide +kernel
theorem dX3_above_39 : decode cX3_above 39 = .ok (.ireturn, 1) := by decide +kernel
theorem dX3_isUnder_0 : decode cX3_isUnder 0 = .ok (.iload_n 0, 1) := by decide +kernel
theorem dX3_isUnder_1 : decode cX3_isUnder 1 = .ok (.istore_n 2, 1) := by decide +kernel
theorem dX3_isUnder_2 : decode cX3_isUnder 2 = .ok (.iconst 0, 1) := by decide +kernel
theorem dX3_isUnder_3 : decode cX3_isUnder 3 = .ok (.istore_n 3, 1) := by decide +kernel
theorem dX3_isUnder_4 : decode cX3_isUnder 4 = .ok (.iload_n 3, 1) := by decide +kernel
theorem dX3_isUnder_5 : decode cX3_isUnder 5 = .ok (.iconst 3, 1) := by decide +kernel
theorem dX3_isUnder_6 : decode cX3_isUnder 6 = .ok (.if_icmp .ge 21, 3) := by decide +kernel
theorem dX3_isUnder_9 : decode cX3_isUnder 9 = .ok (.iload_n 2, 1) := by decide +kernel
theorem dX3_isUnder_10 : decode cX3_isUnder 10 = .ok (.iload_n 1, 1) := by decide +kernel
theorem dX3_isUnder_11 : decode cX3_isUnder 11 = .ok (.if_icmp .ne 5, 3) := by decide +kernel
theorem dX3_isUnder_14 : decode cX3_isUnder 14 = .ok (.iconst 1, 1) := by decide +kernel
theorem dX3_isUnder_15 : decode cX3_isUnder 15 = .ok (.ireturn, 1) := by decide +kernel
theorem dX3_isUnder_16 : decode cX3_isUnder 16 = .ok (.iload_n 2, 1) := by decide +kernel
theorem dX3_isUnder_17 : decode cX3_isUnder 17 = .ok (.invokestatic 11, 3) := by decide +kernel
theorem dX3_isUnder_20 : decode cX3_isUnder 20 = .ok (.istore_n 2, 1) := by decide +kernel
theorem dX3_isUnder_21 : decode cX3_isUnder 21 = .ok (.iinc 3 1, 3) := by decide +kernel
theorem dX3_isUnder_24 : decode cX3_isUnder 24 = .ok (.goto (-20), 3) := by decide +kernel
theorem dX3_isUnder_27 : decode cX3_isUnder 27 = .ok (.iconst 0, 1) := by decide +kernel
theorem dX3_isUnder_28 : decode cX3_isUnder 28 = .ok (.ireturn, 1) := by decide +kernel
theorem dX3_heatsOf_0 : decode cX3_heatsOf 0 = .ok (.iload_n 0, 1) := by decide +kernel
theorem dX3_heatsOf_1 : decode cX3_heatsOf 1 = .ok (.tableswitch 63 1 6 #[39, 47, 39, 47, 63, 59], 39) := by decide +kernel
theorem dX3_heatsOf_40 : decode cX3_heatsOf 40 = .ok (.iconst 0, 1) := by decide +kernel
theorem dX3_heatsOf_41 : decode cX3_heatsOf 41 = .ok (.iload_n 1, 1) := by decide +kernel
theorem dX3_heatsOf_42 : decode cX3_heatsOf 42 = .ok (.iconst 1, 1) := by decide +kernel
theorem dX3_heatsOf_43 : decode cX3_heatsOf 43 = .ok (.isub, 1) := by decide +kernel
theorem dX3_heatsOf_44 : decode cX3_heatsOf 44 = .ok (.invokestatic 15, 3) := by decide +kernel
theorem dX3_heatsOf_47 : decode cX3_heatsOf 47 = .ok (.ireturn, 1) := by decide +kernel
theorem dX3_heatsOf_48 : decode cX3_heatsOf 48 = .ok (.iload_n 1, 1) := by decide +kernel
theorem dX3_heatsOf_49 : decode cX3_heatsOf 49 = .ok (.ifCond .le 9, 3) := by decide +kernel
theorem dX3_heatsOf_52 : decode cX3_heatsOf 52 = .ok (.iload_n 1, 1) := by decide +kernel
theorem dX3_heatsOf_53 : decode cX3_heatsOf 53 = .ok (.iconst 1, 1) := by decide +kernel
theorem dX3_heatsOf_54 : decode cX3_heatsOf 54 = .ok (.iadd, 1) := by decide +kernel
theorem dX3_heatsOf_55 : decode cX3_heatsOf 55 = .ok (.goto 4, 3) := by decide +kernel
theorem dX3_heatsOf_58 : decode cX3_heatsOf 58 = .ok (.iload_n 1, 1) := by decide +kernel
theorem dX3_heatsOf_59 : decode cX3_heatsOf 59 = .ok (.ireturn, 1) := by decide +kernel
theorem dX3_heatsOf_60 : decode cX3_heatsOf 60 = .ok (.iload_n 1, 1) := by decide +kernel
theorem dX3_heatsOf_61 : decode cX3_heatsOf 61 = .ok (.iconst 2, 1) := by decide +kernel
theorem dX3_heatsOf_62 : decode cX3_heatsOf 62 = .ok (.idiv, 1) := by decide +kernel
theorem dX3_heatsOf_63 : decode cX3_heatsOf 63 = .ok (.ireturn, 1) := by decide +kernel
theorem dX3_heatsOf_64 : decode cX3_heatsOf 64 = .ok (.iload_n 1, 1) := by decide +kernel
theorem dX3_heatsOf_65 : decode cX3_heatsOf 65 = .ok (.ireturn, 1) := by decide +kernel
theorem dX3_readyFrom_0 : decode cX3_readyFrom 0 = .ok (.iload_n 0, 1) := by decide +kernel
theorem dX3_readyFrom_1 : decode cX3_readyFrom 1 = .ok (.tableswitch 42 1 4 #[31, 39, 35, 39], 31) := by decide +kernel
theorem dX3_readyFrom_32 : decode cX3_readyFrom 32 = .ok (.sipush 130, 3) := by decide +kernel
theorem dX3_readyFrom_35 : decode cX3_readyFrom 35 = .ok (.ireturn, 1) := by decide +kernel
theorem dX3_readyFrom_36 : decode cX3_readyFrom 36 = .ok (.sipush 140, 3) := by decide +kernel
theorem dX3_readyFrom_39 : decode cX3_readyFrom 39 = .ok (.ireturn, 1) := by decide +kernel
theorem dX3_readyFrom_40 : decode cX3_readyFrom 40 = .ok (.bipush 80, 2) := by decide +kernel
theorem dX3_readyFrom_42 : decode cX3_readyFrom 42 = .ok (.ireturn, 1) := by decide +kernel
theorem dX3_readyFrom_43 : decode cX3_readyFrom 43 = .ok (.bipush 100, 2) := by decide +kernel
theorem dX3_readyFrom_45 : decode cX3_readyFrom 45 = .ok (.ireturn, 1) := by decide +kernel
theorem dX3_burntFrom_0 : decode cX3_burntFrom 0 = .ok (.iload_n 0, 1) := by decide +kernel
theorem dX3_burntFrom_1 : decode cX3_burntFrom 1 = .ok (.tableswitch 42 1 4 #[31, 39, 35, 39], 31) := by decide +kernel
theorem dX3_burntFrom_32 : decode cX3_burntFrom 32 = .ok (.sipush 170, 3) := by decide +kernel
theorem dX3_burntFrom_35 : decode cX3_burntFrom 35 = .ok (.ireturn, 1) := by decide +kernel
theorem dX3_burntFrom_36 : decode cX3_burntFrom 36 = .ok (.sipush 180, 3) := by decide +kernel
theorem dX3_burntFrom_39 : decode cX3_burntFrom 39 = .ok (.ireturn, 1) := by decide +kernel
theorem dX3_burntFrom_40 : decode cX3_burntFrom 40 = .ok (.bipush 105, 2) := by decide +kernel
theorem dX3_burntFrom_42 : decode cX3_burntFrom 42 = .ok (.ireturn, 1) := by decide +kernel
theorem dX3_burntFrom_43 : decode cX3_burntFrom 43 = .ok (.sipush 140, 3) := by decide +kernel
theorem dX3_burntFrom_46 : decode cX3_burntFrom 46 = .ok (.ireturn, 1) := by decide +kernel
theorem dX3_bursts_0 : decode cX3_bursts 0 = .ok (.iload_n 0, 1) := by decide +kernel
theorem dX3_bursts_1 : decode cX3_bursts 1 = .ok (.iconst 4, 1) := by decide +kernel
theorem dX3_bursts_2 : decode cX3_bursts 2 = .ok (.if_icmp .ne 19, 3) := by decide +kernel
theorem dX3_bursts_5 : decode cX3_bursts 5 = .ok (.iload_n 1, 1) := by decide +kernel
theorem dX3_bursts_6 : decode cX3_bursts 6 = .ok (.bipush 60, 2) := by decide +kernel
theorem dX3_bursts_8 : decode cX3_bursts 8 = .ok (.if_icmp .lt 13, 3) := by decide +kernel
theorem dX3_bursts_11 : decode cX3_bursts 11 = .ok (.iload_n 2, 1) := by decide +kernel
theorem dX3_bursts_12 : decode cX3_bursts 12 = .ok (.bipush 8, 2) := by decide +kernel
theorem dX3_bursts_14 : decode cX3_bursts 14 = .ok (.if_icmp .lt 7, 3) := by decide +kernel
theorem dX3_bursts_17 : decode cX3_bursts 17 = .ok (.iconst 1, 1) := by decide +kernel
theorem dX3_bursts_18 : decode cX3_bursts 18 = .ok (.goto 4, 3) := by decide +kernel
theorem dX3_bursts_21 : decode cX3_bursts 21 = .ok (.iconst 0, 1) := by decide +kernel
theorem dX3_bursts_22 : decode cX3_bursts 22 = .ok (.ireturn, 1) := by decide +kernel
theorem dX3_worthOf_0 : decode cX3_worthOf 0 = .ok (.iload_n 0, 1) := by decide +kernel
theorem dX3_worthOf_1 : decode cX3_worthOf 1 = .ok (.tableswitch 53 3 6 #[31, 53, 35, 43], 31) := by decide +kernel
theorem dX3_worthOf_32 : decode cX3_worthOf 32 = .ok (.iload_n 1, 1) := by decide +kernel
theorem dX3_worthOf_33 : decode cX3_worthOf 33 = .ok (.iconst 2, 1) := by decide +kernel
theorem dX3_worthOf_34 : decode cX3_worthOf 34 = .ok (.iadd, 1) := by decide +kernel
theorem dX3_worthOf_35 : decode cX3_worthOf 35 = .ok (.ireturn, 1) := by decide +kernel
theorem dX3_worthOf_36 : decode cX3_worthOf 36 = .ok (.iconst 0, 1) := by decide +kernel
theorem dX3_worthOf_37 : decode cX3_worthOf 37 = .ok (.iload_n 1, 1) := by decide +kernel
theorem dX3_worthOf_38 : decode cX3_worthOf 38 = .ok (.iconst 2, 1) := by decide +kernel
theorem dX3_worthOf_39 : decode cX3_worthOf 39 = .ok (.isub, 1) := by decide +kernel
theorem dX3_worthOf_40 : decode cX3_worthOf 40 = .ok (.invokestatic 15, 3) := by decide +kernel
theorem dX3_worthOf_43 : decode cX3_worthOf 43 = .ok (.ireturn, 1) := by decide +kernel
theorem dX3_worthOf_44 : decode cX3_worthOf 44 = .ok (.iconst 0, 1) := by decide +kernel
theorem dX3_worthOf_45 : decode cX3_worthOf 45 = .ok (.iload_n 1, 1) := by decide +kernel
theorem dX3_worthOf_46 : decode cX3_worthOf 46 = .ok (.iconst 2, 1) := by decide +kernel
theorem dX3_worthOf_47 : decode cX3_worthOf 47 = .ok (.isub, 1) := by decide +kernel
theorem dX3_worthOf_48 : decode cX3_worthOf 48 = .ok (.invokestatic 15, 3) := by decide +kernel
theorem dX3_worthOf_51 : decode cX3_worthOf 51 = .ok (.iconst 2, 1) := by decide +kernel
theorem dX3_worthOf_52 : decode cX3_worthOf 52 = .ok (.idiv, 1) := by decide +kernel
theorem dX3_worthOf_53 : decode cX3_worthOf 53 = .ok (.ireturn, 1) := by decide +kernel
theorem dX3_worthOf_54 : decode cX3_worthOf 54 = .ok (.iload_n 1, 1) := by decide +kernel
theorem dX3_worthOf_55 : decode cX3_worthOf 55 = .ok (.ireturn, 1) := by decide +kernel
theorem dX4_init_0 : decode cX4_init 0 = .ok (.aload_n 0, 1) := by decide +kernel
theorem dX4_init_1 : decode cX4_init 1 = .ok (.invokespecial 3, 3) := by decide +kernel
theorem dX4_init_4 : decode cX4_init 4 = .ok (.aload_n 0, 1) := by decide +kernel
theorem dX4_init_5 : decode cX4_init 5 = .ok (.bipush 10, 2) := by decide +kernel
theorem dX4_init_7 : decode cX4_init 7 = .ok (.newarray .int, 2) := by decide +kernel
theorem dX4_init_9 : decode cX4_init 9 = .ok (.putfield 9, 3) := by decide +kernel
theorem dX4_init_12 : decode cX4_init 12 = .ok (.aload_n 0, 1) := by decide +kernel
theorem dX4_init_13 : decode cX4_init 13 = .ok (.bipush 10, 2) := by decide +kernel
theorem dX4_init_15 : decode cX4_init 15 = .ok (.newarray .int, 2) := by decide +kernel
theorem dX4_init_17 : decode cX4_init 17 = .ok (.putfield 15, 3) := by decide +kernel
theorem dX4_init_20 : decode cX4_init 20 = .ok (.aload_n 0, 1) := by decide +kernel
theorem dX4_init_21 : decode cX4_init 21 = .ok (.bipush 10, 2) := by decide +kernel
theorem dX4_init_23 : decode cX4_init 23 = .ok (.newarray .int, 2) := by decide +kernel
theorem dX4_init_25 : decode cX4_init 25 = .ok (.putfield 18, 3) := by decide +kernel
theorem dX4_init_28 : decode cX4_init 28 = .ok (.aload_n 0, 1) := by decide +kernel
theorem dX4_init_29 : decode cX4_init 29 = .ok (.bipush 10, 2) := by decide +kernel
theorem dX4_init_31 : decode cX4_init 31 = .ok (.newarray .int, 2) := by decide +kernel
theorem dX4_init_33 : decode cX4_init 33 = .ok (.putfield 21, 3) := by decide +kernel
theorem dX4_init_36 : decode cX4_init 36 = .ok (.aload_n 0, 1) := by decide +kernel
theorem dX4_init_37 : decode cX4_init 37 = .ok (.bipush 10, 2) := by decide +kernel
theorem dX4_init_39 : decode cX4_init 39 = .ok (.newarray .int, 2) := by decide +kernel
theorem dX4_init_41 : decode cX4_init 41 = .ok (.putfield 24, 3) := by decide +kernel
theorem dX4_init_44 : decode cX4_init 44 = .ok (.aload_n 0, 1) := by decide +kernel
theorem dX4_init_45 : decode cX4_init 45 = .ok (.iconst 0, 1) := by decide +kernel
theorem dX4_init_46 : decode cX4_init 46 = .ok (.putfield 27, 3) := by decide +kernel
theorem dX4_init_49 : decode cX4_init 49 = .ok (.return_, 1) := by decide +kernel
theorem dX4_become_0 : decode cX4_become 0 = .ok (.aload_n 0, 1) := by decide +kernel
theorem dX4_become_1 : decode cX4_become 1 = .ok (.aload_n 1, 1) := by decide +kernel
theorem dX4_become_2 : decode cX4_become 2 = .ok (.getfield 27, 3) := by decide +kernel
theorem dX4_become_5 : decode cX4_become 5 = .ok (.putfield 27, 3) := by decide +kernel
theorem dX4_become_8 : decode cX4_become 8 = .ok (.aload_n 1, 1) := by decide +kernel
theorem dX4_become_9 : decode cX4_become 9 = .ok (.getfield 9, 3) := by decide +kernel
theorem dX4_become_12 : decode cX4_become 12 = .ok (.iconst 0, 1) := by decide +kernel
theorem dX4_become_13 : decode cX4_become 13 = .ok (.aload_n 0, 1) := by decide +kernel
theorem dX4_become_14 : decode cX4_become 14 = .ok (.getfield 9, 3) := by decide +kernel
theorem dX4_become_17 : decode cX4_become 17 = .ok (.iconst 0, 1) := by decide +kernel
theorem dX4_become_18 : decode cX4_become 18 = .ok (.bipush 10, 2) := by decide +kernel
theorem dX4_become_20 : decode cX4_become 20 = .ok (.invokestatic 31, 3) := by decide +kernel
theorem dX4_become_23 : decode cX4_become 23 = .ok (.aload_n 1, 1) := by decide +kernel
theorem dX4_become_24 : decode cX4_become 24 = .ok (.getfield 15, 3) := by decide +kernel
theorem dX4_become_27 : decode cX4_become 27 = .ok (.iconst 0, 1) := by decide +kernel
theorem dX4_become_28 : decode cX4_become 28 = .ok (.aload_n 0, 1) := by decide +kernel
theorem dX4_become_29 : decode cX4_become 29 = .ok (.getfield 15, 3) := by decide +kernel
theorem dX4_become_32 : decode cX4_become 32 = .ok (.iconst 0, 1) := by decide +kernel
theorem dX4_become_33 : decode cX4_become 33 = .ok (.bipush 10, 2) := by decide +kernel
theorem dX4_become_35 : decode cX4_become 35 = .ok (.invokestatic 31, 3) := by decide +kernel
theorem dX4_become_38 : decode cX4_become 38 = .ok (.aload_n 1, 1) := by decide +kernel
theorem dX4_become_39 : decode cX4_become 39 = .ok (.getfield 18, 3) := by decide +kernel
theorem dX4_become_42 : decode cX4_become 42 = .ok (.iconst 0, 1) := by decide +kernel
theorem dX4_become_43 : decode cX4_become 43 = .ok (.aload_n 0, 1) := by decide +kernel
theorem dX4_become_44 : decode cX4_become 44 = .ok (.getfield 18, 3) := by decide +kernel
theorem dX4_become_47 : decode cX4_become 47 = .ok (.iconst 0, 1) := by decide +kernel
theorem dX4_become_48 : decode cX4_become 48 = .ok (.bipush 10, 2) := by decide +kernel
theorem dX4_become_50 : decode cX4_become 50 = .ok (.invokestatic 31, 3) := by decide +kernel
theorem dX4_become_53 : decode cX4_become 53 = .ok (.aload_n 1, 1) := by decide +kernel
theorem dX4_become_54 : decode cX4_become 54 = .ok (.getfield 21, 3) := by decide +kernel
theorem dX4_become_57 : decode cX4_become 57 = .ok (.iconst 0, 1) := by decide +kernel
theorem dX4_become_58 : decode cX4_become 58 = .ok (.aload_n 0, 1) := by decide +kernel
theorem dX4_become_59 : decode cX4_become 59 = .ok (.getfield 21, 3) := by decide +kernel
theorem dX4_become_62 : decode cX4_become 62 = .ok (.iconst 0, 1) := by decide +kernel
theorem dX4_become_63 : decode cX4_become 63 = .ok (.bipush 10, 2) := by decide +kernel
theorem dX4_become_65 : decode cX4_become 65 = .ok (.invokestatic 31, 3) := by decide +kernel
theorem dX4_become_68 : decode cX4_become 68 = .ok (.aload_n 1, 1) := by decide +kernel
theorem dX4_become_69 : decode cX4_become 69 = .ok (.getfield 24, 3) := by decide +kernel
theorem dX4_become_72 : decode cX4_become 72 = .ok (.iconst 0, 1) := by decide +kernel
theorem dX4_become_73 : decode cX4_become 73 = .ok (.aload_n 0, 1) := by decide +kernel
theorem dX4_become_74 : decode cX4_become 74 = .ok (.getfield 24, 3) := by decide +kernel
theorem dX4_become_77 : decode cX4_become 77 = .ok (.iconst 0, 1) := by decide +kernel
theorem dX4_become_78 : decode cX4_become 78 = .ok (.bipush 10, 2) := by decide +kernel
theorem dX4_become_80 : decode cX4_become 80 = .ok (.invokestatic 31, 3) := by decide +kernel
theorem dX4_become_83 : decode cX4_become 83 = .ok (.return_, 1) := by decide +kernel
theorem dX4_isFull_0 : decode cX4_isFull 0 = .ok (.aload_n 0, 1) := by decide +kernel
theorem dX4_isFull_1 : decode cX4_isFull 1 = .ok (.getfield 27, 3) := by decide +kernel
theorem dX4_isFull_4 : decode cX4_isFull 4 = .ok (.bipush 10, 2) := by decide +kernel
theorem dX4_isFull_6 : decode cX4_isFull 6 = .ok (.if_icmp .lt 7, 3) := by decide +kernel
theorem dX4_isFull_9 : decode cX4_isFull 9 = .ok (.iconst 1, 1) := by decide +kernel
theorem dX4_isFull_10 : decode cX4_isFull 10 = .ok (.goto 4, 3) := by decide +kernel
theorem dX4_isFull_13 : decode cX4_isFull 13 = .ok (.iconst 0, 1) := by decide +kernel
theorem dX4_isFull_14 : decode cX4_isFull 14 = .ok (.ireturn, 1) := by decide +kernel
theorem dX4_add_0 : decode cX4_add 0 = .ok (.aload_n 0, 1) := by decide +kernel
theorem dX4_add_1 : decode cX4_add 1 = .ok (.getfield 27, 3) := by decide +kernel
theorem dX4_add_4 : decode cX4_add 4 = .ok (.istore_n 2, 1) := by decide +kernel
theorem dX4_add_5 : decode cX4_add 5 = .ok (.aload_n 0, 1) := by decide +kernel
theorem dX4_add_6 : decode cX4_add 6 = .ok (.getfield 9, 3) := by decide +kernel
theorem dX4_add_9 : decode cX4_add 9 = .ok (.iload_n 2, 1) := by decide +kernel
theorem dX4_add_10 : decode cX4_add 10 = .ok (.iload_n 1, 1) := by decide +kernel
theorem dX4_add_11 : decode cX4_add 11 = .ok (.iastore, 1) := by decide +kernel
theorem dX4_add_12 : decode cX4_add 12 = .ok (.aload_n 0, 1) := by decide +kernel
theorem dX4_add_13 : decode cX4_add 13 = .ok (.getfield 15, 3) := by decide +kernel
theorem dX4_add_16 : decode cX4_add 16 = .ok (.iload_n 2, 1) := by decide +kernel
theorem dX4_add_17 : decode cX4_add 17 = .ok (.bipush 9, 2) := by decide +kernel
theorem dX4_add_19 : decode cX4_add 19 = .ok (.iastore, 1) := by decide +kernel
theorem dX4_add_20 : decode cX4_add 20 = .ok (.aload_n 0, 1) := by decide +kernel
theorem dX4_add_21 : decode cX4_add 21 = .ok (.getfield 18, 3) := by decide +kernel
theorem dX4_add_24 : decode cX4_add 24 = .ok (.iload_n 2, 1) := by decide +kernel
theorem dX4_add_25 : decode cX4_add 25 = .ok (.iconst 0, 1) := by decide +kernel
theorem dX4_add_26 : decode cX4_add 26 = .ok (.iastore, 1) := by decide +kernel
theorem dX4_add_27 : decode cX4_add 27 = .ok (.aload_n 0, 1) := by decide +kernel
theorem dX4_add_28 : decode cX4_add 28 = .ok (.getfield 21, 3) := by decide +kernel
theorem dX4_add_31 : decode cX4_add 31 = .ok (.iload_n 2, 1) := by decide +kernel
theorem dX4_add_32 : decode cX4_add 32 = .ok (.iconst 0, 1) := by decide +kernel
theorem dX4_add_33 : decode cX4_add 33 = .ok (.iastore, 1) := by decide +kernel
theorem dX4_add_34 : decode cX4_add 34 = .ok (.aload_n 0, 1) := by decide +kernel
theorem dX4_add_35 : decode cX4_add 35 = .ok (.getfield 24, 3) := by decide +kernel
theorem dX4_add_38 : decode cX4_add 38 = .ok (.iload_n 2, 1) := by decide +kernel
theorem dX4_add_39 : decode cX4_add 39 = .ok (.iconst 0, 1) := by decide +kernel
theorem dX4_add_40 : decode cX4_add 40 = .ok (.iastore, 1) := by decide +kernel
theorem dX4_add_41 : decode cX4_add 41 = .ok (.aload_n 0, 1) := by decide +kernel
theorem dX4_add_42 : decode cX4_add 42 = .ok (.dup, 1) := by decide +kernel
theorem dX4_add_43 : decode cX4_add 43 = .ok (.getfield 27, 3) := by decide +kernel
theorem dX4_add_46 : decode cX4_add 46 = .ok (.iconst 1, 1) := by decide +kernel
theorem dX4_add_47 : decode cX4_add 47 = .ok (.iadd, 1) := by decide +kernel
theorem dX4_add_48 : decode cX4_add 48 = .ok (.putfield 27, 3) := by decide +kernel
theorem dX4_add_51 : decode cX4_add 51 = .ok (.iload_n 2, 1) := by decide +kernel
theorem dX4_add_52 : decode cX4_add 52 = .ok (.ireturn, 1) := by decide +kernel
theorem dX4_isGone_0 : decode cX4_isGone 0 = .ok (.aload_n 0, 1) := by decide +kernel
theorem dX4_isGone_1 : decode cX4_isGone 1 = .ok (.getfield 24, 3) := by decide +kernel
theorem dX4_isGone_4 : decode cX4_isGone 4 = .ok (.iload_n 1, 1) := by decide +kernel
theorem dX4_isGone_5 : decode cX4_isGone 5 = .ok (.iaload, 1) := by decide +kernel
theorem dX4_isGone_6 : decode cX4_isGone 6 = .ok (.iconst 4, 1) := by decide +kernel
theorem dX4_isGone_7 : decode cX4_isGone 7 = .ok (.if_icmp .ne 7, 3) := by decide +kernel
theorem dX4_isGone_10 : decode cX4_isGone 10 = .ok (.iconst 1, 1) := by decide +kernel
theorem dX4_isGone_11 : decode cX4_isGone 11 = .ok (.goto 4, 3) := by decide +kernel
theorem dX4_isGone_14 : decode cX4_isGone 14 = .ok (.iconst 0, 1) := by decide +kernel
theorem dX4_isGone_15 : decode cX4_isGone 15 = .ok (.ireturn, 1) := by decide +kernel
theorem dX4_isOverFire_0 : decode cX4_isOverFire 0 = .ok (.aload_n 0, 1) := by decide +kernel
theorem dX4_isOverFire_1 : decode cX4_isOverFire 1 = .ok (.getfield 24, 3) := by decide +kernel
theorem dX4_isOverFire_4 : decode cX4_isOverFire 4 = .ok (.iload_n 1, 1) := by decide +kernel
theorem dX4_isOverFire_5 : decode cX4_isOverFire 5 = .ok (.iaload, 1) := by decide +kernel
theorem dX4_isOverFire_6 : decode cX4_isOverFire 6 = .ok (.iconst 1, 1) := by decide +kernel
theorem dX4_isOverFire_7 : decode cX4_isOverFire 7 = .ok (.if_icmp .eq 13, 3) := by decide +kernel
theorem dX4_isOverFire_10 : decode cX4_isOverFire 10 = .ok (.aload_n 0, 1) := by decide +kernel
theorem dX4_isOverFire_11 : decode cX4_isOverFire 11 = .ok (.getfield 24, 3) := by decide +kernel
theorem dX4_isOverFire_14 : decode cX4_isOverFire 14 = .ok (.iload_n 1, 1) := by decide +kernel
theorem dX4_isOverFire_15 : decode cX4_isOverFire 15 = .ok (.iaload, 1) := by decide +kernel
theorem dX4_isOverFire_16 : decode cX4_isOverFire 16 = .ok (.iconst 2, 1) := by decide +kernel
theorem dX4_isOverFire_17 : decode cX4_isOverFire 17 = .ok (.if_icmp .ne 7, 3) := by decide +kernel
theorem dX4_isOverFire_20 : decode cX4_isOverFire 20 = .ok (.iconst 1, 1) := by decide +kernel
theorem dX4_isOverFire_21 : decode cX4_isOverFire 21 = .ok (.goto 4, 3) := by decide +kernel
theorem dX4_isOverFire_24 : decode cX4_isOverFire 24 = .ok (.iconst 0, 1) := by decide +kernel
theorem dX4_isOverFire_25 : decode cX4_isOverFire 25 = .ok (.ireturn, 1) := by decide +kernel
theorem dX4_isReady_0 : decode cX4_isReady 0 = .ok (.aload_n 0, 1) := by decide +kernel
theorem dX4_isReady_1 : decode cX4_isReady 1 = .ok (.getfield 24, 3) := by decide +kernel
theorem dX4_isReady_4 : decode cX4_isReady 4 = .ok (.iload_n 1, 1) := by decide +kernel
theorem dX4_isReady_5 : decode cX4_isReady 5 = .ok (.iaload, 1) := by decide +kernel
theorem dX4_isReady_6 : decode cX4_isReady 6 = .ok (.iconst 4, 1) := by decide +kernel
theorem dX4_isReady_7 : decode cX4_isReady 7 = .ok (.if_icmp .eq 25, 3) := by decide +kernel
theorem dX4_isReady_10 : decode cX4_isReady 10 = .ok (.aload_n 0, 1) := by decide +kernel
theorem dX4_isReady_11 : decode cX4_isReady 11 = .ok (.getfield 18, 3) := by decide +kernel
theorem dX4_isReady_14 : decode cX4_isReady 14 = .ok (.iload_n 1, 1) := by decide +kernel
theorem dX4_isReady_15 : decode cX4_isReady 15 = .ok (.iaload, 1) := by decide +kernel
theorem dX4_isReady_16 : decode cX4_isReady 16 = .ok (.aload_n 0, 1) := by decide +kernel
theorem dX4_isReady_17 : decode cX4_isReady 17 = .ok (.getfield 9, 3) := by decide +kernel
theorem dX4_isReady_20 : decode cX4_isReady 20 = .ok (.iload_n 1, 1) := by decide +kernel
theorem dX4_isReady_21 : decode cX4_isReady 21 = .ok (.iaload, 1) := by decide +kernel
theorem dX4_isReady_22 : decode cX4_isReady 22 = .ok (.invokestatic 37, 3) := by decide +kernel
theorem dX4_isReady_25 : decode cX4_isReady 25 = .ok (.if_icmp .lt 7, 3) := by decide +kernel
theorem dX4_isReady_28 : decode cX4_isReady 28 = .ok (.iconst 1, 1) := by decide +kernel
theorem dX4_isReady_29 : decode cX4_isReady 29 = .ok (.goto 4, 3) := by decide +kernel
theorem dX4_isReady_32 : decode cX4_isReady 32 = .ok (.iconst 0, 1) := by decide +kernel
theorem dX4_isReady_33 : decode cX4_isReady 33 = .ok (.ireturn, 1) := by decide +kernel
theorem dX4_isBurnt_0 : decode cX4_isBurnt 0 = .ok (.aload_n 0, 1) := by decide +kernel
theorem dX4_isBurnt_1 : decode cX4_isBurnt 1 = .ok (.getfield 18, 3) := by decide +kernel
theorem dX4_isBurnt_4 : decode cX4_isBurnt 4 = .ok (.iload_n 1, 1) := by decide +kernel
theorem dX4_isBurnt_5 : decode cX4_isBurnt 5 = .ok (.iaload, 1) := by decide +kernel
theorem dX4_isBurnt_6 : decode cX4_isBurnt 6 = .ok (.aload_n 0, 1) := by decide +kernel
theorem dX4_isBurnt_7 : decode cX4_isBurnt 7 = .ok (.getfield 9, 3) := by decide +kernel
theorem dX4_isBurnt_10 : decode cX4_isBurnt 10 = .ok (.iload_n 1, 1) := by decide +kernel
theorem dX4_isBurnt_11 : decode cX4_isBurnt 11 = .ok (.iaload, 1) := by decide +kernel
theorem dX4_isBurnt_12 : decode cX4_isBurnt 12 = .ok (.invokestatic 43, 3) := by decide +kernel
theorem dX4_isBurnt_15 : decode cX4_isBurnt 15 = .ok (.if_icmp .lt 7, 3) := by decide +kernel
theorem dX4_isBurnt_18 : decode cX4_isBurnt 18 = .ok (.iconst 1, 1) := by decide +kernel
theorem dX4_isBurnt_19 : decode cX4_isBurnt 19 = .ok (.goto 4, 3) := by decide +kernel
theorem dX4_isBurnt_22 : decode cX4_isBurnt 22 = .ok (.iconst 0, 1) := by decide +kernel
theorem dX4_isBurnt_23 : decode cX4_isBurnt 23 = .ok (.ireturn, 1) := by decide +kernel
theorem dX4_hasRoom_0 : decode cX4_hasRoom 0 = .ok (.iload_n 1, 1) := by decide +kernel
theorem dX4_hasRoom_1 : decode cX4_hasRoom 1 = .ok (.iconst 1, 1) := by decide +kernel
theorem dX4_hasRoom_2 : decode cX4_hasRoom 2 = .ok (.if_icmp .eq 10, 3) := by decide +kernel
theorem dX4_hasRoom_5 : decode cX4_hasRoom 5 = .ok (.iload_n 1, 1) := by decide +kernel
theorem dX4_hasRoom_6 : decode cX4_hasRoom 6 = .ok (.iconst 2, 1) := by decide +kernel
theorem dX4_hasRoom_7 : decode cX4_hasRoom 7 = .ok (.if_icmp .eq 5, 3) := by decide +kernel
theorem dX4_hasRoom_10 : decode cX4_hasRoom 10 = .ok (.iconst 1, 1) := by decide +kernel
theorem dX4_hasRoom_11 : decode cX4_hasRoom 11 = .ok (.ireturn, 1) := by decide +kernel
theorem dX4_hasRoom_12 : decode cX4_hasRoom 12 = .ok (.aload_n 0, 1) := by decide +kernel
theorem dX4_hasRoom_13 : decode cX4_hasRoom 13 = .ok (.iload_n 1, 1) := by decide +kernel
theorem dX4_hasRoom_14 : decode cX4_hasRoom 14 = .ok (.invokevirtual 46, 3) := by decide +kernel
theorem dX4_hasRoom_17 : decode cX4_hasRoom 17 = .ok (.invokestatic 49, 3) := by decide +kernel
theorem dX4_hasRoom_20 : decode cX4_hasRoom 20 = .ok (.istore_n 2, 1) := by decide +kernel
theorem dX4_hasRoom_21 : decode cX4_hasRoom 21 = .ok (.iload_n 2, 1) := by decide +kernel
theorem dX4_hasRoom_22 : decode cX4_hasRoom 22 = .ok (.iload_n 1, 1) := by decide +kernel
theorem dX4_hasRoom_23 : decode cX4_hasRoom 23 = .ok (.iconst 1, 1) := by decide +kernel
theorem dX4_hasRoom_24 : decode cX4_hasRoom 24 = .ok (.if_icmp .ne 7, 3) := by decide +kernel
theorem dX4_hasRoom_27 : decode cX4_hasRoom 27 = .ok (.iconst 2, 1) := by decide +kernel
theorem dX4_hasRoom_28 : decode cX4_hasRoom 28 = .ok (.goto 4, 3) := by decide +kernel
theorem dX4_hasRoom_31 : decode cX4_hasRoom 31 = .ok (.iconst 4, 1) := by decide +kernel
theorem dX4_hasRoom_32 : decode cX4_hasRoom 32 = .ok (.if_icmp .ge 7, 3) := by decide +kernel
theorem dX4_hasRoom_35 : decode cX4_hasRoom 35 = .ok (.iconst 1, 1) := by decide +kernel
theorem dX4_hasRoom_36 : decode cX4_hasRoom 36 = .ok (.goto 4, 3) := by decide +kernel
theorem dX4_hasRoom_39 : decode cX4_hasRoom 39 = .ok (.iconst 0, 1) := by decide +kernel
theorem dX4_hasRoom_40 : decode cX4_hasRoom 40 = .ok (.ireturn, 1) := by decide +kernel
theorem dX4_lay_0 : decode cX4_lay 0 = .ok (.aload_n 0, 1) := by decide +kernel
theorem dX4_lay_1 : decode cX4_lay 1 = .ok (.getfield 24, 3) := by decide +kernel
theorem dX4_lay_4 : decode cX4_lay 4 = .ok (.iload_n 1, 1) := by decide +kernel
theorem dX4_lay_5 : decode cX4_lay 5 = .ok (.iload_n 2, 1) := by decide +kernel
theorem dX4_lay_6 : decode cX4_lay 6 = .ok (.iastore, 1) := by decide +kernel
theorem dX4_lay_7 : decode cX4_lay 7 = .ok (.iload_n 2, 1) := by decide +kernel
theorem dX4_lay_8 : decode cX4_lay 8 = .ok (.iconst 3, 1) := by decide +kernel
theorem dX4_lay_9 : decode cX4_lay 9 = .ok (.if_icmp .ne 10, 3) := by decide +kernel
theorem dX4_lay_12 : decode cX4_lay 12 = .ok (.aload_n 0, 1) := by decide +kernel
theorem dX4_lay_13 : decode cX4_lay 13 = .ok (.getfield 21, 3) := by decide +kernel
theorem dX4_lay_16 : decode cX4_lay 16 = .ok (.iload_n 1, 1) := by decide +kernel
theorem dX4_lay_17 : decode cX4_lay 17 = .ok (.iconst 0, 1) := by decide +kernel
theorem dX4_lay_18 : decode cX4_lay 18 = .ok (.iastore, 1) := by decide +kernel
theorem dX4_lay_19 : decode cX4_lay 19 = .ok (.iload_n 2, 1) := by decide +kernel
theorem dX4_lay_20 : decode cX4_lay 20 = .ok (.iconst 4, 1) := by decide +kernel
theorem dX4_lay_21 : decode cX4_lay 21 = .ok (.if_icmp .eq 5, 3) := by decide +kernel
theorem dX4_lay_24 : decode cX4_lay 24 = .ok (.iconst 0, 1) := by decide +kernel
theorem dX4_lay_25 : decode cX4_lay 25 = .ok (.ireturn, 1) := by decide +kernel
theorem dX4_lay_26 : decode cX4_lay 26 = .ok (.aload_n 0, 1) := by decide +kernel
theorem dX4_lay_27 : decode cX4_lay 27 = .ok (.getfield 15, 3) := by decide +kernel
theorem dX4_lay_30 : decode cX4_lay 30 = .ok (.iload_n 1, 1) := by decide +kernel
theorem dX4_lay_31 : decode cX4_lay 31 = .ok (.iaload, 1) := by decide +kernel
theorem dX4_lay_32 : decode cX4_lay 32 = .ok (.istore_n 3, 1) := by decide +kernel
theorem dX4_lay_33 : decode cX4_lay 33 = .ok (.aload_n 0, 1) := by decide +kernel
theorem dX4_lay_34 : decode cX4_lay 34 = .ok (.getfield 15, 3) := by decide +kernel
theorem dX4_lay_37 : decode cX4_lay 37 = .ok (.iload_n 1, 1) := by decide +kernel
theorem dX4_lay_38 : decode cX4_lay 38 = .ok (.iconst 0, 1) := by decide +kernel
theorem dX4_lay_39 : decode cX4_lay 39 = .ok (.iastore, 1) := by decide +kernel
theorem dX4_lay_40 : decode cX4_lay 40 = .ok (.iload_n 3, 1) := by decide +kernel
theorem dX4_lay_41 : decode cX4_lay 41 = .ok (.ireturn, 1) := by decide +kernel
theorem dX4_roastAll_0 : decode cX4_roastAll 0 = .ok (.iconst 0, 1) := by decide +kernel
theorem dX4_roastAll_1 : decode cX4_roastAll 1 = .ok (.istore_n 2, 1) := by decide +kernel
theorem dX4_roastAll_2 : decode cX4_roastAll 2 = .ok (.iconst 0, 1) := by decide +kernel
theorem dX4_roastAll_3 : decode cX4_roastAll 3 = .ok (.istore_n 3, 1) := by decide +kernel
theorem dX4_roastAll_4 : decode cX4_roastAll 4 = .ok (.iload_n 3, 1) := by decide +kernel
theorem dX4_roastAll_5 : decode cX4_roastAll 5 = .ok (.aload_n 0, 1) := by decide +kernel
theorem dX4_roastAll_6 : decode cX4_roastAll 6 = .ok (.getfield 27, 3) := by decide +kernel
theorem dX4_roastAll_9 : decode cX4_roastAll 9 = .ok (.if_icmp .ge 92, 3) := by decide +kernel
theorem dX4_roastAll_12 : decode cX4_roastAll 12 = .ok (.aload_n 0, 1) := by decide +kernel
theorem dX4_roastAll_13 : decode cX4_roastAll 13 = .ok (.getfield 24, 3) := by decide +kernel
theorem dX4_roastAll_16 : decode cX4_roastAll 16 = .ok (.iload_n 3, 1) := by decide +kernel
theorem dX4_roastAll_17 : decode cX4_roastAll 17 = .ok (.iaload, 1) := by decide +kernel
theorem dX4_roastAll_18 : decode cX4_roastAll 18 = .ok (.iconst 1, 1) := by decide +kernel
theorem dX4_roastAll_19 : decode cX4_roastAll 19 = .ok (.if_icmp .ne 49, 3) := by decide +kernel
theorem dX4_roastAll_22 : decode cX4_roastAll 22 = .ok (.aload_n 0, 1) := by decide +kernel
theorem dX4_roastAll_23 : decode cX4_roastAll 23 = .ok (.iload_n 3, 1) := by decide +kernel
theorem dX4_roastAll_24 : decode cX4_roastAll 24 = .ok (.aload_n 0, 1) := by decide +kernel
theorem dX4_roastAll_25 : decode cX4_roastAll 25 = .ok (.getfield 9, 3) := by decide +kernel
theorem dX4_roastAll_28 : decode cX4_roastAll 28 = .ok (.iload_n 3, 1) := by decide +kernel
theorem dX4_roastAll_29 : decode cX4_roastAll 29 = .ok (.iaload, 1) := by decide +kernel
theorem dX4_roastAll_30 : decode cX4_roastAll 30 = .ok (.iload_n 1, 1) := by decide +kernel
theorem dX4_roastAll_31 : decode cX4_roastAll 31 = .ok (.invokestatic 54, 3) := by decide +kernel
theorem dX4_roastAll_34 : decode cX4_roastAll 34 = .ok (.invokevirtual 58, 3) := by decide +kernel
theorem dX4_roastAll_37 : decode cX4_roastAll 37 = .ok (.aload_n 0, 1) := by decide +kernel
theorem dX4_roastAll_38 : decode cX4_roastAll 38 = .ok (.getfield 9, 3) := by decide +kernel
theorem dX4_roastAll_41 : decode cX4_roastAll 41 = .ok (.iload_n 3, 1) := by decide +kernel
theorem dX4_roastAll_42 : decode cX4_roastAll 42 = .ok (.iaload, 1) := by decide +kernel
theorem dX4_roastAll_43 : decode cX4_roastAll 43 = .ok (.aload_n 0, 1) := by decide +kernel
theorem dX4_roastAll_44 : decode cX4_roastAll 44 = .ok (.getfield 18, 3) := by decide +kernel
theorem dX4_roastAll_47 : decode cX4_roastAll 47 = .ok (.iload_n 3, 1) := by decide +kernel
theorem dX4_roastAll_48 : decode cX4_roastAll 48 = .ok (.iaload, 1) := by decide +kernel
theorem dX4_roastAll_49 : decode cX4_roastAll 49 = .ok (.iload_n 1, 1) := by decide +kernel
theorem dX4_roastAll_50 : decode cX4_roastAll 50 = .ok (.invokestatic 62, 3) := by decide +kernel
theorem dX4_roastAll_53 : decode cX4_roastAll 53 = .ok (.ifCond .eq 42, 3) := by decide +kernel
theorem dX4_roastAll_56 : decode cX4_roastAll 56 = .ok (.iload_n 2, 1) := by decide +kernel
theorem dX4_roastAll_57 : decode cX4_roastAll 57 = .ok (.aload_n 0, 1) := by decide +kernel
theorem dX4_roastAll_58 : decode cX4_roastAll 58 = .ok (.iload_n 3, 1) := by decide +kernel
theorem dX4_roastAll_59 : decode cX4_roastAll 59 = .ok (.iconst 4, 1) := by decide +kernel
theorem dX4_roastAll_60 : decode cX4_roastAll 60 = .ok (.invokevirtual 66, 3) := by decide +kernel
theorem dX4_roastAll_63 : decode cX4_roastAll 63 = .ok (.iadd, 1) := by decide +kernel
theorem dX4_roastAll_64 : decode cX4_roastAll 64 = .ok (.istore_n 2, 1) := by decide +kernel
theorem dX4_roastAll_65 : decode cX4_roastAll 65 = .ok (.goto 30, 3) := by decide +kernel
theorem dX4_roastAll_68 : decode cX4_roastAll 68 = .ok (.aload_n 0, 1) := by decide +kernel
theorem dX4_roastAll_69 : decode cX4_roastAll 69 = .ok (.getfield 24, 3) := by decide +kernel
theorem dX4_roastAll_72 : decode cX4_roastAll 72 = .ok (.iload_n 3, 1) := by decide +kernel
theorem dX4_roastAll_73 : decode cX4_roastAll 73 = .ok (.iaload, 1) := by decide +kernel
theorem dX4_roastAll_74 : decode cX4_roastAll 74 = .ok (.iconst 2, 1) := by decide +kernel
theorem dX4_roastAll_75 : decode cX4_roastAll 75 = .ok (.if_icmp .ne 20, 3) := by decide +kernel
theorem dX4_roastAll_78 : decode cX4_roastAll 78 = .ok (.aload_n 0, 1) := by decide +kernel
theorem dX4_roastAll_79 : decode cX4_roastAll 79 = .ok (.iload_n 3, 1) := by decide +kernel
theorem dX4_roastAll_80 : decode cX4_roastAll 80 = .ok (.aload_n 0, 1) := by decide +kernel
theorem dX4_roastAll_81 : decode cX4_roastAll 81 = .ok (.getfield 9, 3) := by decide +kernel
theorem dX4_roastAll_84 : decode cX4_roastAll 84 = .ok (.iload_n 3, 1) := by decide +kernel
theorem dX4_roastAll_85 : decode cX4_roastAll 85 = .ok (.iaload, 1) := by decide +kernel
theorem dX4_roastAll_86 : decode cX4_roastAll 86 = .ok (.iload_n 1, 1) := by decide +kernel
theorem dX4_roastAll_87 : decode cX4_roastAll 87 = .ok (.iconst 2, 1) := by decide +kernel
theorem dX4_roastAll_88 : decode cX4_roastAll 88 = .ok (.idiv, 1) := by decide +kernel
theorem dX4_roastAll_89 : decode cX4_roastAll 89 = .ok (.invokestatic 54, 3) := by decide +kernel
theorem dX4_roastAll_92 : decode cX4_roastAll 92 = .ok (.invokevirtual 58, 3) := by decide +kernel
theorem dX4_roastAll_95 : decode cX4_roastAll 95 = .ok (.iinc 3 1, 3) := by decide +kernel
theorem dX4_roastAll_98 : decode cX4_roastAll 98 = .ok (.goto (-94), 3) := by decide +kernel
theorem dX4_roastAll_101 : decode cX4_roastAll 101 = .ok (.iload_n 2, 1) := by decide +kernel
theorem dX4_roastAll_102 : decode cX4_roastAll 102 = .ok (.ireturn, 1) := by decide +kernel
theorem dX4_roastBy_0 : decode cX4_roastBy 0 = .ok (.aload_n 0, 1) := by decide +kernel
theorem dX4_roastBy_1 : decode cX4_roastBy 1 = .ok (.getfield 18, 3) := by decide +kernel
theorem dX4_roastBy_4 : decode cX4_roastBy 4 = .ok (.iload_n 1, 1) := by decide +kernel
theorem dX4_roastBy_5 : decode cX4_roastBy 5 = .ok (.sipush 999, 3) := by decide +kernel
theorem dX4_roastBy_8 : decode cX4_roastBy 8 = .ok (.aload_n 0, 1) := by decide +kernel
theorem dX4_roastBy_9 : decode cX4_roastBy 9 = .ok (.getfield 18, 3) := by decide +kernel
theorem dX4_roastBy_12 : decode cX4_roastBy 12 = .ok (.iload_n 1, 1) := by decide +kernel
theorem dX4_roastBy_13 : decode cX4_roastBy 13 = .ok (.iaload, 1) := by decide +kernel
theorem dX4_roastBy_14 : decode cX4_roastBy 14 = .ok (.iload_n 2, 1) := by decide +kernel
theorem dX4_roastBy_15 : decode cX4_roastBy 15 = .ok (.iadd, 1) := by decide +kernel
theorem dX4_roastBy_16 : decode cX4_roastBy 16 = .ok (.invokestatic 69, 3) := by decide +kernel
theorem dX4_roastBy_19 : decode cX4_roastBy 19 = .ok (.iastore, 1) := by decide +kernel
theorem dX4_roastBy_20 : decode cX4_roastBy 20 = .ok (.return_, 1) := by decide +kernel
theorem dX4_ageHeap_0 : decode cX4_ageHeap 0 = .ok (.iconst 0, 1) := by decide +kernel
theorem dX4_ageHeap_1 : decode cX4_ageHeap 1 = .ok (.istore_n 1, 1) := by decide +kernel
theorem dX4_ageHeap_2 : decode cX4_ageHeap 2 = .ok (.iload_n 1, 1) := by decide +kernel
theorem dX4_ageHeap_3 : decode cX4_ageHeap 3 = .ok (.aload_n 0, 1) := by decide +kernel
theorem dX4_ageHeap_4 : decode cX4_ageHeap 4 = .ok (.getfield 27, 3) := by decide +kernel
theorem dX4_ageHeap_7 : decode cX4_ageHeap 7 = .ok (.if_icmp .ge 29, 3) := by decide +kernel
theorem dX4_ageHeap_10 : decode cX4_ageHeap 10 = .ok (.aload_n 0, 1) := by decide +kernel
theorem dX4_ageHeap_11 : decode cX4_ageHeap 11 = .ok (.getfield 24, 3) := by decide +kernel
theorem dX4_ageHeap_14 : decode cX4_ageHeap 14 = .ok (.iload_n 1, 1) := by decide +kernel
theorem dX4_ageHeap_15 : decode cX4_ageHeap 15 = .ok (.iaload, 1) := by decide +kernel
theorem dX4_ageHeap_16 : decode cX4_ageHeap 16 = .ok (.iconst 3, 1) := by decide +kernel
theorem dX4_ageHeap_17 : decode cX4_ageHeap 17 = .ok (.if_icmp .ne 13, 3) := by decide +kernel
theorem dX4_ageHeap_20 : decode cX4_ageHeap 20 = .ok (.aload_n 0, 1) := by decide +kernel
theorem dX4_ageHeap_21 : decode cX4_ageHeap 21 = .ok (.getfield 21, 3) := by decide +kernel
theorem dX4_ageHeap_24 : decode cX4_ageHeap 24 = .ok (.iload_n 1, 1) := by decide +kernel
theorem dX4_ageHeap_25 : decode cX4_ageHeap 25 = .ok (.dup2, 1) := by decide +kernel
theorem dX4_ageHeap_26 : decode cX4_ageHeap 26 = .ok (.iaload, 1) := by decide +kernel
theorem dX4_ageHeap_27 : decode cX4_ageHeap 27 = .ok (.iconst 1, 1) := by decide +kernel
theorem dX4_ageHeap_28 : decode cX4_ageHeap 28 = .ok (.iadd, 1) := by decide +kernel
theorem dX4_ageHeap_29 : decode cX4_ageHeap 29 = .ok (.iastore, 1) := by decide +kernel
theorem dX4_ageHeap_30 : decode cX4_ageHeap 30 = .ok (.iinc 1 1, 3) := by decide +kernel
theorem dX4_ageHeap_33 : decode cX4_ageHeap 33 = .ok (.goto (-31), 3) := by decide +kernel
theorem dX4_ageHeap_36 : decode cX4_ageHeap 36 = .ok (.return_, 1) := by decide +kernel
theorem dX4_youngest_0 : decode cX4_youngest 0 = .ok (.iconst (-1), 1) := by decide +kernel
theorem dX4_youngest_1 : decode cX4_youngest 1 = .ok (.istore_n 3, 1) := by decide +kernel
theorem dX4_youngest_2 : decode cX4_youngest 2 = .ok (.iconst 0, 1) := by decide +kernel
theorem dX4_youngest_3 : decode cX4_youngest 3 = .ok (.istore 4, 2) := by decide +kernel
theorem dX4_youngest_5 : decode cX4_youngest 5 = .ok (.iload 4, 2) := by decide +kernel
theorem dX4_youngest_7 : decode cX4_youngest 7 = .ok (.aload_n 0, 1) := by decide +kernel
theorem dX4_youngest_8 : decode cX4_youngest 8 = .ok (.getfield 27, 3) := by decide +kernel
theorem dX4_youngest_11 : decode cX4_youngest 11 = .ok (.if_icmp .ge 127, 3) := by decide +kernel
theorem dX4_youngest_14 : decode cX4_youngest 14 = .ok (.aload_n 0, 1) := by decide +kernel
theorem dX4_youngest_15 : decode cX4_youngest 15 = .ok (.getfield 24, 3) := by decide +kernel
theorem dX4_youngest_18 : decode cX4_youngest 18 = .ok (.iload 4, 2) := by decide +kernel
theorem dX4_youngest_20 : decode cX4_youngest 20 = .ok (.iaload, 1) := by decide +kernel
theorem dX4_youngest_21 : decode cX4_youngest 21 = .ok (.iconst 3, 1) := by decide +kernel
theorem dX4_youngest_22 : decode cX4_youngest 22 = .ok (.if_icmp .ne 79, 3) := by decide +kernel
theorem dX4_youngest_25 : decode cX4_youngest 25 = .ok (.aload_n 0, 1) := by decide +kernel
theorem dX4_youngest_26 : decode cX4_youngest 26 = .ok (.getfield 15, 3) := by decide +kernel
theorem dX4_youngest_29 : decode cX4_youngest 29 = .ok (.iload 4, 2) := by decide +kernel
theorem dX4_youngest_31 : decode cX4_youngest 31 = .ok (.iaload, 1) := by decide +kernel
theorem dX4_youngest_32 : decode cX4_youngest 32 = .ok (.ifCond .le 69, 3) := by decide +kernel
theorem dX4_youngest_35 : decode cX4_youngest 35 = .ok (.aload_n 0, 1) := by decide +kernel
theorem dX4_youngest_36 : decode cX4_youngest 36 = .ok (.getfield 21, 3) := by decide +kernel
theorem dX4_youngest_39 : decode cX4_youngest 39 = .ok (.iload 4, 2) := by decide +kernel
theorem dX4_youngest_41 : decode cX4_youngest 41 = .ok (.iaload, 1) := by decide +kernel
theorem dX4_youngest_42 : decode cX4_youngest 42 = .ok (.iload_n 1, 1) := by decide +kernel
theorem dX4_youngest_43 : decode cX4_youngest 43 = .ok (.if_icmp .lt 58, 3) := by decide +kernel
theorem dX4_youngest_46 : decode cX4_youngest 46 = .ok (.aload_n 0, 1) := by decide +kernel
theorem dX4_youngest_47 : decode cX4_youngest 47 = .ok (.getfield 21, 3) := by decide +kernel
theorem dX4_youngest_50 : decode cX4_youngest 50 = .ok (.iload 4, 2) := by decide +kernel
theorem dX4_youngest_52 : decode cX4_youngest 52 = .ok (.iaload, 1) := by decide +kernel
theorem dX4_youngest_53 : decode cX4_youngest 53 = .ok (.iload_n 2, 1) := by decide +kernel
theorem dX4_youngest_54 : decode cX4_youngest 54 = .ok (.if_icmp .gt 47, 3) := by decide +kernel
theorem dX4_youngest_57 : decode cX4_youngest 57 = .ok (.aload_n 0, 1) := by decide +kernel
theorem dX4_youngest_58 : decode cX4_youngest 58 = .ok (.getfield 18, 3) := by decide +kernel
theorem dX4_youngest_61 : decode cX4_youngest 61 = .ok (.iload 4, 2) := by decide +kernel
theorem dX4_youngest_63 : decode cX4_youngest 63 = .ok (.iaload, 1) := by decide +kernel
theorem dX4_youngest_64 : decode cX4_youngest 64 = .ok (.aload_n 0, 1) := by decide +kernel
theorem dX4_youngest_65 : decode cX4_youngest 65 = .ok (.getfield 9, 3) := by decide +kernel
theorem dX4_youngest_68 : decode cX4_youngest 68 = .ok (.iload 4, 2) := by decide +kernel
theorem dX4_youngest_70 : decode cX4_youngest 70 = .ok (.iaload, 1) := by decide +kernel
theorem dX4_youngest_71 : decode cX4_youngest 71 = .ok (.invokestatic 37, 3) := by decide +kernel
theorem dX4_youngest_74 : decode cX4_youngest 74 = .ok (.if_icmp .lt 27, 3) := by decide +kernel
theorem dX4_youngest_77 : decode cX4_youngest 77 = .ok (.aload_n 0, 1) := by decide +kernel
theorem dX4_youngest_78 : decode cX4_youngest 78 = .ok (.getfield 18, 3) := by decide +kernel
theorem dX4_youngest_81 : decode cX4_youngest 81 = .ok (.iload 4, 2) := by decide +kernel
theorem dX4_youngest_83 : decode cX4_youngest 83 = .ok (.iaload, 1) := by decide +kernel
theorem dX4_youngest_84 : decode cX4_youngest 84 = .ok (.aload_n 0, 1) := by decide +kernel
theorem dX4_youngest_85 : decode cX4_youngest 85 = .ok (.getfield 9, 3) := by decide +kernel
theorem dX4_youngest_88 : decode cX4_youngest 88 = .ok (.iload 4, 2) := by decide +kernel
theorem dX4_youngest_90 : decode cX4_youngest 90 = .ok (.iaload, 1) := by decide +kernel
theorem dX4_youngest_91 : decode cX4_youngest 91 = .ok (.invokestatic 43, 3) := by decide +kernel
theorem dX4_youngest_94 : decode cX4_youngest 94 = .ok (.if_icmp .ge 7, 3) := by decide +kernel
theorem dX4_youngest_97 : decode cX4_youngest 97 = .ok (.iconst 1, 1) := by decide +kernel
theorem dX4_youngest_98 : decode cX4_youngest 98 = .ok (.goto 4, 3) := by decide +kernel
theorem dX4_youngest_101 : decode cX4_youngest 101 = .ok (.iconst 0, 1) := by decide +kernel
theorem dX4_youngest_102 : decode cX4_youngest 102 = .ok (.istore 5, 2) := by decide +kernel
theorem dX4_youngest_104 : decode cX4_youngest 104 = .ok (.iload 5, 2) := by decide +kernel
theorem dX4_youngest_106 : decode cX4_youngest 106 = .ok (.ifCond .eq 26, 3) := by decide +kernel
theorem dX4_youngest_109 : decode cX4_youngest 109 = .ok (.iload_n 3, 1) := by decide +kernel
theorem dX4_youngest_110 : decode cX4_youngest 110 = .ok (.ifCond .lt 19, 3) := by decide +kernel
theorem dX4_youngest_113 : decode cX4_youngest 113 = .ok (.aload_n 0, 1) := by decide +kernel
theorem dX4_youngest_114 : decode cX4_youngest 114 = .ok (.getfield 21, 3) := by decide +kernel
theorem dX4_youngest_117 : decode cX4_youngest 117 = .ok (.iload 4, 2) := by decide +kernel
theorem dX4_youngest_119 : decode cX4_youngest 119 = .ok (.iaload, 1) := by decide +kernel
theorem dX4_youngest_120 : decode cX4_youngest 120 = .ok (.aload_n 0, 1) := by decide +kernel
theorem dX4_youngest_121 : decode cX4_youngest 121 = .ok (.getfield 21, 3) := by decide +kernel
theorem dX4_youngest_124 : decode cX4_youngest 124 = .ok (.iload_n 3, 1) := by decide +kernel
theorem dX4_youngest_125 : decode cX4_youngest 125 = .ok (.iaload, 1) := by decide +kernel
theorem dX4_youngest_126 : decode cX4_youngest 126 = .ok (.if_icmp .ge 6, 3) := by decide +kernel
theorem dX4_youngest_129 : decode cX4_youngest 129 = .ok (.iload 4, 2) := by decide +kernel
theorem dX4_youngest_131 : decode cX4_youngest 131 = .ok (.istore_n 3, 1) := by decide +kernel
theorem dX4_youngest_132 : decode cX4_youngest 132 = .ok (.iinc 4 1, 3) := by decide +kernel
theorem dX4_youngest_135 : decode cX4_youngest 135 = .ok (.goto (-130), 3) := by decide +kernel
theorem dX4_youngest_138 : decode cX4_youngest 138 = .ok (.iload_n 3, 1) := by decide +kernel
theorem dX4_youngest_139 : decode cX4_youngest 139 = .ok (.ireturn, 1) := by decide +kernel
theorem dX4_setAt_0 : decode cX4_setAt 0 = .ok (.iconst 0, 1) := by decide +kernel
theorem dX4_setAt_1 : decode cX4_setAt 1 = .ok (.istore_n 2, 1) := by decide +kernel
theorem dX4_setAt_2 : decode cX4_setAt 2 = .ok (.iconst 0, 1) := by decide +kernel
theorem dX4_setAt_3 : decode cX4_setAt 3 = .ok (.istore_n 3, 1) := by decide +kernel
theorem dX4_setAt_4 : decode cX4_setAt 4 = .ok (.iload_n 3, 1) := by decide +kernel
theorem dX4_setAt_5 : decode cX4_setAt 5 = .ok (.aload_n 0, 1) := by decide +kernel
theorem dX4_setAt_6 : decode cX4_setAt 6 = .ok (.getfield 27, 3) := by decide +kernel
theorem dX4_setAt_9 : decode cX4_setAt 9 = .ok (.if_icmp .ge 25, 3) := by decide +kernel
theorem dX4_setAt_12 : decode cX4_setAt 12 = .ok (.aload_n 0, 1) := by decide +kernel
theorem dX4_setAt_13 : decode cX4_setAt 13 = .ok (.getfield 24, 3) := by decide +kernel
theorem dX4_setAt_16 : decode cX4_setAt 16 = .ok (.iload_n 3, 1) := by decide +kernel
theorem dX4_setAt_17 : decode cX4_setAt 17 = .ok (.iaload, 1) := by decide +kernel
theorem dX4_setAt_18 : decode cX4_setAt 18 = .ok (.iload_n 1, 1) := by decide +kernel
theorem dX4_setAt_19 : decode cX4_setAt 19 = .ok (.if_icmp .ne 9, 3) := by decide +kernel
theorem dX4_setAt_22 : decode cX4_setAt 22 = .ok (.iload_n 2, 1) := by decide +kernel
theorem dX4_setAt_23 : decode cX4_setAt 23 = .ok (.iconst 1, 1) := by decide +kernel
theorem dX4_setAt_24 : decode cX4_setAt 24 = .ok (.iload_n 3, 1) := by decide +kernel
theorem dX4_setAt_25 : decode cX4_setAt 25 = .ok (.ishl, 1) := by decide +kernel
theorem dX4_setAt_26 : decode cX4_setAt 26 = .ok (.ior, 1) := by decide +kernel
theorem dX4_setAt_27 : decode cX4_setAt 27 = .ok (.istore_n 2, 1) := by decide +kernel
theorem dX4_setAt_28 : decode cX4_setAt 28 = .ok (.iinc 3 1, 3) := by decide +kernel
theorem dX4_setAt_31 : decode cX4_setAt 31 = .ok (.goto (-27), 3) := by decide +kernel
theorem dX4_setAt_34 : decode cX4_setAt 34 = .ok (.iload_n 2, 1) := by decide +kernel
theorem dX4_setAt_35 : decode cX4_setAt 35 = .ok (.ireturn, 1) := by decide +kernel
theorem dX4_setDoneOverFire_0 : decode cX4_setDoneOverFire 0 = .ok (.iconst 0, 1) := by decide +kernel
theorem dX4_setDoneOverFire_1 : decode cX4_setDoneOverFire 1 = .ok (.istore_n 1, 1) := by decide +kernel
theorem dX4_setDoneOverFire_2 : decode cX4_setDoneOverFire 2 = .ok (.iconst 0, 1) := by decide +kernel
theorem dX4_setDoneOverFire_3 : decode cX4_setDoneOverFire 3 = .ok (.istore_n 2, 1) := by decide +kernel
theorem dX4_setDoneOverFire_4 : decode cX4_setDoneOverFire 4 = .ok (.iload_n 2, 1) := by decide +kernel
theorem dX4_setDoneOverFire_5 : decode cX4_setDoneOverFire 5 = .ok (.aload_n 0, 1) := by decide +kernel
theorem dX4_setDoneOverFire_6 : decode cX4_setDoneOverFire 6 = .ok (.getfield 27, 3) := by decide +kernel
theorem dX4_setDoneOverFire_9 : decode cX4_setDoneOverFire 9 = .ok (.if_icmp .ge 39, 3) := by decide +kernel
theorem dX4_setDoneOverFire_12 : decode cX4_setDoneOverFire 12 = .ok (.aload_n 0, 1) := by decide +kernel
theorem dX4_setDoneOverFire_13 : decode cX4_setDoneOverFire 13 = .ok (.iload_n 2, 1) := by decide +kernel
theorem dX4_setDoneOverFire_14 : decode cX4_setDoneOverFire 14 = .ok (.invokevirtual 74, 3) := by decide +kernel
theorem dX4_setDoneOverFire_17 : decode cX4_setDoneOverFire 17 = .ok (.ifCond .eq 25, 3) := by decide +kernel
theorem dX4_setDoneOverFire_20 : decode cX4_setDoneOverFire 20 = .ok (.aload_n 0, 1) := by decide +kernel
theorem dX4_setDoneOverFire_21 : decode cX4_setDoneOverFire 21 = .ok (.iload_n 2, 1) := by decide +kernel
theorem dX4_setDoneOverFire_22 : decode cX4_setDoneOverFire 22 = .ok (.invokevirtual 78, 3) := by decide +kernel
theorem dX4_setDoneOverFire_25 : decode cX4_setDoneOverFire 25 = .ok (.ifCond .eq 17, 3) := by decide +kernel
theorem dX4_setDoneOverFire_28 : decode cX4_setDoneOverFire 28 = .ok (.aload_n 0, 1) := by decide +kernel
theorem dX4_setDoneOverFire_29 : decode cX4_setDoneOverFire 29 = .ok (.iload_n 2, 1) := by decide +kernel
theorem dX4_setDoneOverFire_30 : decode cX4_setDoneOverFire 30 = .ok (.invokevirtual 81, 3) := by decide +kernel
theorem dX4_setDoneOverFire_33 : decode cX4_setDoneOverFire 33 = .ok (.ifCond .ne 9, 3) := by decide +kernel
theorem dX4_setDoneOverFire_36 : decode cX4_setDoneOverFire 36 = .ok (.iload_n 1, 1) := by decide +kernel
theorem dX4_setDoneOverFire_37 : decode cX4_setDoneOverFire 37 = .ok (.iconst 1, 1) := by decide +kernel
theorem dX4_setDoneOverFire_38 : decode cX4_setDoneOverFire 38 = .ok (.iload_n 2, 1) := by decide +kernel
theorem dX4_setDoneOverFire_39 : decode cX4_setDoneOverFire 39 = .ok (.ishl, 1) := by decide +kernel
theorem dX4_setDoneOverFire_40 : decode cX4_setDoneOverFire 40 = .ok (.ior, 1) := by decide +kernel
theorem dX4_setDoneOverFire_41 : decode cX4_setDoneOverFire 41 = .ok (.istore_n 1, 1) := by decide +kernel
theorem dX4_setDoneOverFire_42 : decode cX4_setDoneOverFire 42 = .ok (.iinc 2 1, 3) := by decide +kernel
theorem dX4_setDoneOverFire_45 : decode cX4_setDoneOverFire 45 = .ok (.goto (-41), 3) := by decide +kernel
theorem dX4_setDoneOverFire_48 : decode cX4_setDoneOverFire 48 = .ok (.iload_n 1, 1) := by decide +kernel
theorem dX4_setDoneOverFire_49 : decode cX4_setDoneOverFire 49 = .ok (.ireturn, 1) := by decide +kernel
theorem dX4_bagsNotGone_0 : decode cX4_bagsNotGone 0 = .ok (.iconst 0, 1) := by decide +kernel
theorem dX4_bagsNotGone_1 : decode cX4_bagsNotGone 1 = .ok (.istore_n 1, 1) := by decide +kernel
theorem dX4_bagsNotGone_2 : decode cX4_bagsNotGone 2 = .ok (.iconst 0, 1) := by decide +kernel
theorem dX4_bagsNotGone_3 : decode cX4_bagsNotGone 3 = .ok (.istore_n 2, 1) := by decide +kernel
theorem dX4_bagsNotGone_4 : decode cX4_bagsNotGone 4 = .ok (.iload_n 2, 1) := by decide +kernel
theorem dX4_bagsNotGone_5 : decode cX4_bagsNotGone 5 = .ok (.aload_n 0, 1) := by decide +kernel
theorem dX4_bagsNotGone_6 : decode cX4_bagsNotGone 6 = .ok (.getfield 27, 3) := by decide +kernel
theorem dX4_bagsNotGone_9 : decode cX4_bagsNotGone 9 = .ok (.if_icmp .ge 26, 3) := by decide +kernel
theorem dX4_bagsNotGone_12 : decode cX4_bagsNotGone 12 = .ok (.aload_n 0, 1) := by decide +kernel
theorem dX4_bagsNotGone_13 : decode cX4_bagsNotGone 13 = .ok (.iload_n 2, 1) := by decide +kernel
theorem dX4_bagsNotGone_14 : decode cX4_bagsNotGone 14 = .ok (.invokevirtual 84, 3) := by decide +kernel
theorem dX4_bagsNotGone_17 : decode cX4_bagsNotGone 17 = .ok (.ifCond .ne 12, 3) := by decide +kernel
theorem dX4_bagsNotGone_20 : decode cX4_bagsNotGone 20 = .ok (.iload_n 1, 1) := by decide +kernel
theorem dX4_bagsNotGone_21 : decode cX4_bagsNotGone 21 = .ok (.aload_n 0, 1) := by decide +kernel
theorem dX4_bagsNotGone_22 : decode cX4_bagsNotGone 22 = .ok (.getfield 15, 3) := by decide +kernel
theorem dX4_bagsNotGone_25 : decode cX4_bagsNotGone 25 = .ok (.iload_n 2, 1) := by decide +kernel
theorem dX4_bagsNotGone_26 : decode cX4_bagsNotGone 26 = .ok (.iaload, 1) := by decide +kernel
theorem dX4_bagsNotGone_27 : decode cX4_bagsNotGone 27 = .ok (.iadd, 1) := by decide +kernel
theorem dX4_bagsNotGone_28 : decode cX4_bagsNotGone 28 = .ok (.istore_n 1, 1) := by decide +kernel
theorem dX4_bagsNotGone_29 : decode cX4_bagsNotGone 29 = .ok (.iinc 2 1, 3) := by decide +kernel
theorem dX4_bagsNotGone_32 : decode cX4_bagsNotGone 32 = .ok (.goto (-28), 3) := by decide +kernel
theorem dX4_bagsNotGone_35 : decode cX4_bagsNotGone 35 = .ok (.iload_n 1, 1) := by decide +kernel
theorem dX4_bagsNotGone_36 : decode cX4_bagsNotGone 36 = .ok (.ireturn, 1) := by decide +kernel
theorem dX4_bagsOfAll_0 : decode cX4_bagsOfAll 0 = .ok (.iconst 0, 1) := by decide +kernel
theorem dX4_bagsOfAll_1 : decode cX4_bagsOfAll 1 = .ok (.istore_n 1, 1) := by decide +kernel
theorem dX4_bagsOfAll_2 : decode cX4_bagsOfAll 2 = .ok (.iconst 0, 1) := by decide +kernel
theorem dX4_bagsOfAll_3 : decode cX4_bagsOfAll 3 = .ok (.istore_n 2, 1) := by decide +kernel
theorem dX4_bagsOfAll_4 : decode cX4_bagsOfAll 4 = .ok (.iload_n 2, 1) := by decide +kernel
theorem dX4_bagsOfAll_5 : decode cX4_bagsOfAll 5 = .ok (.aload_n 0, 1) := by decide +kernel
theorem dX4_bagsOfAll_6 : decode cX4_bagsOfAll 6 = .ok (.getfield 27, 3) := by decide +kernel
theorem dX4_bagsOfAll_9 : decode cX4_bagsOfAll 9 = .ok (.if_icmp .ge 18, 3) := by decide +kernel
theorem dX4_bagsOfAll_12 : decode cX4_bagsOfAll 12 = .ok (.iload_n 1, 1) := by decide +kernel
theorem dX4_bagsOfAll_13 : decode cX4_bagsOfAll 13 = .ok (.aload_n 0, 1) := by decide +kernel
theorem dX4_bagsOfAll_14 : decode cX4_bagsOfAll 14 = .ok (.getfield 15, 3) := by decide +kernel
theorem dX4_bagsOfAll_17 : decode cX4_bagsOfAll 17 = .ok (.iload_n 2, 1) := by decide +kernel
theorem dX4_bagsOfAll_18 : decode cX4_bagsOfAll 18 = .ok (.iaload, 1) := by decide +kernel
theorem dX4_bagsOfAll_19 : decode cX4_bagsOfAll 19 = .ok (.iadd, 1) := by decide +kernel
theorem dX4_bagsOfAll_20 : decode cX4_bagsOfAll 20 = .ok (.istore_n 1, 1) := by decide +kernel
theorem dX4_bagsOfAll_21 : decode cX4_bagsOfAll 21 = .ok (.iinc 2 1, 3) := by decide +kernel
theorem dX4_bagsOfAll_24 : decode cX4_bagsOfAll 24 = .ok (.goto (-20), 3) := by decide +kernel
theorem dX4_bagsOfAll_27 : decode cX4_bagsOfAll 27 = .ok (.iload_n 1, 1) := by decide +kernel
theorem dX4_bagsOfAll_28 : decode cX4_bagsOfAll 28 = .ok (.ireturn, 1) := by decide +kernel
theorem dX5_init_0 : decode cX5_init 0 = .ok (.aload_n 0, 1) := by decide +kernel
theorem dX5_init_1 : decode cX5_init 1 = .ok (.invokespecial 1, 3) := by decide +kernel
theorem dX5_init_4 : decode cX5_init 4 = .ok (.aload_n 0, 1) := by decide +kernel
theorem dX5_init_5 : decode cX5_init 5 = .ok (.iconst 4, 1) := by decide +kernel
theorem dX5_init_6 : decode cX5_init 6 = .ok (.newarray .int, 2) := by decide +kernel
theorem dX5_init_8 : decode cX5_init 8 = .ok (.putfield 9, 3) := by decide +kernel
theorem dX5_init_11 : decode cX5_init 11 = .ok (.aload_n 0, 1) := by decide +kernel
theorem dX5_init_12 : decode cX5_init 12 = .ok (.iconst 4, 1) := by decide +kernel
theorem dX5_init_13 : decode cX5_init 13 = .ok (.newarray .int, 2) := by decide +kernel
theorem dX5_init_15 : decode cX5_init 15 = .ok (.putfield 13, 3) := by decide +kernel
theorem dX5_init_18 : decode cX5_init 18 = .ok (.aload_n 0, 1) := by decide +kernel
theorem dX5_init_19 : decode cX5_init 19 = .ok (.sipush 160, 3) := by decide +kernel
theorem dX5_init_22 : decode cX5_init 22 = .ok (.newarray .int, 2) := by decide +kernel
theorem dX5_init_24 : decode cX5_init 24 = .ok (.putfield 16, 3) := by decide +kernel
theorem dX5_init_27 : decode cX5_init 27 = .ok (.return_, 1) := by decide +kernel
theorem dX5_isSheet_0 : decode cX5_isSheet 0 = .ok (.iload_n 1, 1) := by decide +kernel
theorem dX5_isSheet_1 : decode cX5_isSheet 1 = .ok (.ifCond .lt 12, 3) := by decide +kernel
theorem dX5_isSheet_4 : decode cX5_isSheet 4 = .ok (.iload_n 1, 1) := by decide +kernel
theorem dX5_isSheet_5 : decode cX5_isSheet 5 = .ok (.iconst 4, 1) := by decide +kernel
theorem dX5_isSheet_6 : decode cX5_isSheet 6 = .ok (.if_icmp .ge 7, 3) := by decide +kernel
theorem dX5_isSheet_9 : decode cX5_isSheet 9 = .ok (.iconst 1, 1) := by decide +kernel
theorem dX5_isSheet_10 : decode cX5_isSheet 10 = .ok (.goto 4, 3) := by decide +kernel
theorem dX5_isSheet_13 : decode cX5_isSheet 13 = .ok (.iconst 0, 1) := by decide +kernel
theorem dX5_isSheet_14 : decode cX5_isSheet 14 = .ok (.ireturn, 1) := by decide +kernel
theorem dX5_isMissing_0 : decode cX5_isMissing 0 = .ok (.aload_n 0, 1) := by decide +kernel
theorem dX5_isMissing_1 : decode cX5_isMissing 1 = .ok (.getfield 9, 3) := by decide +kernel
theorem dX5_isMissing_4 : decode cX5_isMissing 4 = .ok (.iload_n 1, 1) := by decide +kernel
theorem dX5_isMissing_5 : decode cX5_isMissing 5 = .ok (.iaload, 1) := by decide +kernel
theorem dX5_isMissing_6 : decode cX5_isMissing 6 = .ok (.ifCond .ne 7, 3) := by decide +kernel
theorem dX5_isMissing_9 : decode cX5_isMissing 9 = .ok (.iconst 1, 1) := by decide +kernel
theorem dX5_isMissing_10 : decode cX5_isMissing 10 = .ok (.goto 4, 3) := by decide +kernel
theorem dX5_isMissing_13 : decode cX5_isMissing 13 = .ok (.iconst 0, 1) := by decide +kernel
theorem dX5_isMissing_14 : decode cX5_isMissing 14 = .ok (.ireturn, 1) := by decide +kernel
theorem dX5_lay_0 : decode cX5_lay 0 = .ok (.aload_n 0, 1) := by decide +kernel
theorem dX5_lay_1 : decode cX5_lay 1 = .ok (.getfield 9, 3) := by decide +kernel
theorem dX5_lay_4 : decode cX5_lay 4 = .ok (.iload_n 1, 1) := by decide +kernel
theorem dX5_lay_5 : decode cX5_lay 5 = .ok (.iload_n 2, 1) := by decide +kernel
theorem dX5_lay_6 : decode cX5_lay 6 = .ok (.iastore, 1) := by decide +kernel
theorem dX5_lay_7 : decode cX5_lay 7 = .ok (.aload_n 0, 1) := by decide +kernel
theorem dX5_lay_8 : decode cX5_lay 8 = .ok (.getfield 13, 3) := by decide +kernel
theorem dX5_lay_11 : decode cX5_lay 11 = .ok (.iload_n 1, 1) := by decide +kernel
theorem dX5_lay_12 : decode cX5_lay 12 = .ok (.iload_n 3, 1) := by decide +kernel
theorem dX5_lay_13 : decode cX5_lay 13 = .ok (.iastore, 1) := by decide +kernel
theorem dX5_lay_14 : decode cX5_lay 14 = .ok (.iconst 0, 1) := by decide +kernel
theorem dX5_lay_15 : decode cX5_lay 15 = .ok (.istore 4, 2) := by decide +kernel
theorem dX5_lay_17 : decode cX5_lay 17 = .ok (.iload 4, 2) := by decide +kernel
theorem dX5_lay_19 : decode cX5_lay 19 = .ok (.iload_n 3, 1) := by decide +kernel
theorem dX5_lay_20 : decode cX5_lay 20 = .ok (.if_icmp .ge 22, 3) := by decide +kernel
theorem dX5_lay_23 : decode cX5_lay 23 = .ok (.aload_n 0, 1) := by decide +kernel
theorem dX5_lay_24 : decode cX5_lay 24 = .ok (.getfield 16, 3) := by decide +kernel
theorem dX5_lay_27 : decode cX5_lay 27 = .ok (.iload_n 1, 1) := by decide +kernel
theorem dX5_lay_28 : decode cX5_lay 28 = .ok (.bipush 40, 2) := by decide +kernel
theorem dX5_lay_30 : decode cX5_lay 30 = .ok (.imul, 1) := by decide +kernel
theorem dX5_lay_31 : decode cX5_lay 31 = .ok (.iload 4, 2) := by decide +kernel
theorem dX5_lay_33 : decode cX5_lay 33 = .ok (.iadd, 1) := by decide +kernel
theorem dX5_lay_34 : decode cX5_lay 34 = .ok (.iconst 0, 1) := by decide +kernel
theorem dX5_lay_35 : decode cX5_lay 35 = .ok (.iastore, 1) := by decide +kernel
theorem dX5_lay_36 : decode cX5_lay 36 = .ok (.iinc 4 1, 3) := by decide +kernel
theorem dX5_lay_39 : decode cX5_lay 39 = .ok (.goto (-22), 3) := by decide +kernel
theorem dX5_lay_42 : decode cX5_lay 42 = .ok (.return_, 1) := by decide +kernel
theorem dX5_hasNumbers_0 : decode cX5_hasNumbers 0 = .ok (.iload_n 2, 1) := by decide +kernel
theorem dX5_hasNumbers_1 : decode cX5_hasNumbers 1 = .ok (.ifCond .lt 33, 3) := by decide +kernel
theorem dX5_hasNumbers_4 : decode cX5_hasNumbers 4 = .ok (.iload_n 3, 1) := by decide +kernel
theorem dX5_hasNumbers_5 : decode cX5_hasNumbers 5 = .ok (.ifCond .lt 29, 3) := by decide +kernel
theorem dX5_hasNumbers_8 : decode cX5_hasNumbers 8 = .ok (.iload_n 3, 1) := by decide +kernel
theorem dX5_hasNumbers_9 : decode cX5_hasNumbers 9 = .ok (.aload_n 0, 1) := by decide +kernel
theorem dX5_hasNumbers_10 : decode cX5_hasNumbers 10 = .ok (.getfield 13, 3) := by decide +kernel
theorem dX5_hasNumbers_13 : decode cX5_hasNumbers 13 = .ok (.iload_n 1, 1) := by decide +kernel
theorem dX5_hasNumbers_14 : decode cX5_hasNumbers 14 = .ok (.iaload, 1) := by decide +kernel
theorem dX5_hasNumbers_15 : decode cX5_hasNumbers 15 = .ok (.if_icmp .gt 19, 3) := by decide +kernel
theorem dX5_hasNumbers_18 : decode cX5_hasNumbers 18 = .ok (.iload_n 2, 1) := by decide +kernel
theorem dX5_hasNumbers_19 : decode cX5_hasNumbers 19 = .ok (.aload_n 0, 1) := by decide +kernel
theorem dX5_hasNumbers_20 : decode cX5_hasNumbers 20 = .ok (.getfield 13, 3) := by decide +kernel
theorem dX5_hasNumbers_23 : decode cX5_hasNumbers 23 = .ok (.iload_n 1, 1) := by decide +kernel
theorem dX5_hasNumbers_24 : decode cX5_hasNumbers 24 = .ok (.iaload, 1) := by decide +kernel
theorem dX5_hasNumbers_25 : decode cX5_hasNumbers 25 = .ok (.iload_n 3, 1) := by decide +kernel
theorem dX5_hasNumbers_26 : decode cX5_hasNumbers 26 = .ok (.isub, 1) := by decide +kernel
theorem dX5_hasNumbers_27 : decode cX5_hasNumbers 27 = .ok (.if_icmp .gt 7, 3) := by decide +kernel
theorem dX5_hasNumbers_30 : decode cX5_hasNumbers 30 = .ok (.iconst 1, 1) := by decide +kernel
theorem dX5_hasNumbers_31 : decode cX5_hasNumbers 31 = .ok (.goto 4, 3) := by decide +kernel
theorem dX5_hasNumbers_34 : decode cX5_hasNumbers 34 = .ok (.iconst 0, 1) := by decide +kernel
theorem dX5_hasNumbers_35 : decode cX5_hasNumbers 35 = .ok (.ireturn, 1) := by decide +kernel
theorem dX5_numberAt_0 : decode cX5_numberAt 0 = .ok (.aload_n 0, 1) := by decide +kernel
theorem dX5_numberAt_1 : decode cX5_numberAt 1 = .ok (.getfield 16, 3) := by decide +kernel
theorem dX5_numberAt_4 : decode cX5_numberAt 4 = .ok (.iload_n 1, 1) := by decide +kernel
theorem dX5_numberAt_5 : decode cX5_numberAt 5 = .ok (.bipush 40, 2) := by decide +kernel
theorem dX5_numberAt_7 : decode cX5_numberAt 7 = .ok (.imul, 1) := by decide +kernel
theorem dX5_numberAt_8 : decode cX5_numberAt 8 = .ok (.iload_n 2, 1) := by decide +kernel
theorem dX5_numberAt_9 : decode cX5_numberAt 9 = .ok (.iadd, 1) := by decide +kernel
theorem dX5_numberAt_10 : decode cX5_numberAt 10 = .ok (.iaload, 1) := by decide +kernel
theorem dX5_numberAt_11 : decode cX5_numberAt 11 = .ok (.ireturn, 1) := by decide +kernel
theorem dX5_setNumber_0 : decode cX5_setNumber 0 = .ok (.bipush 32, 2) := by decide +kernel
theorem dX5_setNumber_2 : decode cX5_setNumber 2 = .ok (.aload_n 0, 1) := by decide +kernel
theorem dX5_setNumber_3 : decode cX5_setNumber 3 = .ok (.getfield 9, 3) := by decide +kernel
theorem dX5_setNumber_6 : decode cX5_setNumber 6 = .ok (.iload_n 1, 1) := by decide +kernel
theorem dX5_setNumber_7 : decode cX5_setNumber 7 = .ok (.iaload, 1) := by decide +kernel
theorem dX5_setNumber_8 : decode cX5_setNumber 8 = .ok (.isub, 1) := by decide +kernel
theorem dX5_setNumber_9 : decode cX5_setNumber 9 = .ok (.istore 4, 2) := by decide +kernel
theorem dX5_setNumber_11 : decode cX5_setNumber 11 = .ok (.aload_n 0, 1) := by decide +kernel
theorem dX5_setNumber_12 : decode cX5_setNumber 12 = .ok (.getfield 16, 3) := by decide +kernel
theorem dX5_setNumber_15 : decode cX5_setNumber 15 = .ok (.iload_n 1, 1) := by decide +kernel
theorem dX5_setNumber_16 : decode cX5_setNumber 16 = .ok (.bipush 40, 2) := by decide +kernel
theorem dX5_setNumber_18 : decode cX5_setNumber 18 = .ok (.imul, 1) := by decide +kernel
theorem dX5_setNumber_19 : decode cX5_setNumber 19 = .ok (.iload_n 2, 1) := by decide +kernel
theorem dX5_setNumber_20 : decode cX5_setNumber 20 = .ok (.iadd, 1) := by decide +kernel
theorem dX5_setNumber_21 : decode cX5_setNumber 21 = .ok (.iload_n 3, 1) := by decide +kernel
theorem dX5_setNumber_22 : decode cX5_setNumber 22 = .ok (.iload 4, 2) := by decide +kernel
theorem dX5_setNumber_24 : decode cX5_setNumber 24 = .ok (.ishl, 1) := by decide +kernel
theorem dX5_setNumber_25 : decode cX5_setNumber 25 = .ok (.iload 4, 2) := by decide +kernel
theorem dX5_setNumber_27 : decode cX5_setNumber 27 = .ok (.ishr, 1) := by decide +kernel
theorem dX5_setNumber_28 : decode cX5_setNumber 28 = .ok (.iastore, 1) := by decide +kernel
theorem dX5_setNumber_29 : decode cX5_setNumber 29 = .ok (.return_, 1) := by decide +kernel
theorem dX5_move_0 : decode cX5_move 0 = .ok (.aload_n 0, 1) := by decide +kernel
theorem dX5_move_1 : decode cX5_move 1 = .ok (.getfield 16, 3) := by decide +kernel
theorem dX5_move_4 : decode cX5_move 4 = .ok (.iload_n 1, 1) := by decide +kernel
theorem dX5_move_5 : decode cX5_move 5 = .ok (.bipush 40, 2) := by decide +kernel
theorem dX5_move_7 : decode cX5_move 7 = .ok (.imul, 1) := by decide +kernel
theorem dX5_move_8 : decode cX5_move 8 = .ok (.iload_n 2, 1) := by decide +kernel
theorem dX5_move_9 : decode cX5_move 9 = .ok (.iadd, 1) := by decide +kernel
theorem dX5_move_10 : decode cX5_move 10 = .ok (.aload_n 0, 1) := by decide +kernel
theorem dX5_move_11 : decode cX5_move 11 = .ok (.getfield 16, 3) := by decide +kernel
theorem dX5_move_14 : decode cX5_move 14 = .ok (.iload_n 3, 1) := by decide +kernel
theorem dX5_move_15 : decode cX5_move 15 = .ok (.bipush 40, 2) := by decide +kernel
theorem dX5_move_17 : decode cX5_move 17 = .ok (.imul, 1) := by decide +kernel
theorem dX5_move_18 : decode cX5_move 18 = .ok (.iload 4, 2) := by decide +kernel
theorem dX5_move_20 : decode cX5_move 20 = .ok (.iadd, 1) := by decide +kernel
theorem dX5_move_21 : decode cX5_move 21 = .ok (.iload 5, 2) := by decide +kernel
theorem dX5_move_23 : decode cX5_move 23 = .ok (.invokestatic 19, 3) := by decide +kernel
theorem dX5_move_26 : decode cX5_move 26 = .ok (.return_, 1) := by decide +kernel
theorem dX6_init_0 : decode cX6_init 0 = .ok (.aload_n 0, 1) := by decide +kernel
theorem dX6_init_1 : decode cX6_init 1 = .ok (.invokespecial 1, 3) := by decide +kernel
theorem dX6_init_4 : decode cX6_init 4 = .ok (.aload_n 0, 1) := by decide +kernel
theorem dX6_init_5 : decode cX6_init 5 = .ok (.bipush 120, 2) := by decide +kernel
theorem dX6_init_7 : decode cX6_init 7 = .ok (.newarray .int, 2) := by decide +kernel
theorem dX6_init_9 : decode cX6_init 9 = .ok (.putfield 9, 3) := by decide +kernel
theorem dX6_init_12 : decode cX6_init 12 = .ok (.aload_n 0, 1) := by decide +kernel
theorem dX6_init_13 : decode cX6_init 13 = .ok (.iconst 0, 1) := by decide +kernel
theorem dX6_init_14 : decode cX6_init 14 = .ok (.putfield 13, 3) := by decide +kernel
theorem dX6_init_17 : decode cX6_init 17 = .ok (.aload_n 0, 1) := by decide +kernel
theorem dX6_init_18 : decode cX6_init 18 = .ok (.iconst 0, 1) := by decide +kernel
theorem dX6_init_19 : decode cX6_init 19 = .ok (.putfield 17, 3) := by decide +kernel
theorem dX6_init_22 : decode cX6_init 22 = .ok (.aload_n 0, 1) := by decide +kernel
theorem dX6_init_23 : decode cX6_init 23 = .ok (.iconst 0, 1) := by decide +kernel
theorem dX6_init_24 : decode cX6_init 24 = .ok (.putfield 20, 3) := by decide +kernel
theorem dX6_init_27 : decode cX6_init 27 = .ok (.aload_n 0, 1) := by decide +kernel
theorem dX6_init_28 : decode cX6_init 28 = .ok (.iconst 0, 1) := by decide +kernel
theorem dX6_init_29 : decode cX6_init 29 = .ok (.putfield 23, 3) := by decide +kernel
theorem dX6_init_32 : decode cX6_init 32 = .ok (.aload_n 0, 1) := by decide +kernel
theorem dX6_init_33 : decode cX6_init 33 = .ok (.iconst 0, 1) := by decide +kernel
theorem dX6_init_34 : decode cX6_init 34 = .ok (.putfield 26, 3) := by decide +kernel
theorem dX6_init_37 : decode cX6_init 37 = .ok (.return_, 1) := by decide +kernel
theorem dX6_hasRoom_0 : decode cX6_hasRoom 0 = .ok (.aload_n 0, 1) := by decide +kernel
theorem dX6_hasRoom_1 : decode cX6_hasRoom 1 = .ok (.getfield 13, 3) := by decide +kernel
theorem dX6_hasRoom_4 : decode cX6_hasRoom 4 = .ok (.iload_n 1, 1) := by decide +kernel
theorem dX6_hasRoom_5 : decode cX6_hasRoom 5 = .ok (.iadd, 1) := by decide +kernel
theorem dX6_hasRoom_6 : decode cX6_hasRoom 6 = .ok (.bipush 120, 2) := by decide +kernel
theorem dX6_hasRoom_8 : decode cX6_hasRoom 8 = .ok (.if_icmp .gt 7, 3) := by decide +kernel
theorem dX6_hasRoom_11 : decode cX6_hasRoom 11 = .ok (.iconst 1, 1) := by decide +kernel
theorem dX6_hasRoom_12 : decode cX6_hasRoom 12 = .ok (.goto 4, 3) := by decide +kernel
theorem dX6_hasRoom_15 : decode cX6_hasRoom 15 = .ok (.iconst 0, 1) := by decide +kernel
theorem dX6_hasRoom_16 : decode cX6_hasRoom 16 = .ok (.ireturn, 1) := by decide +kernel
theorem dX6_append_0 : decode cX6_append 0 = .ok (.iload_n 2, 1) := by decide +kernel
theorem dX6_append_1 : decode cX6_append 1 = .ok (.iconst 1, 1) := by decide +kernel
theorem dX6_append_2 : decode cX6_append 2 = .ok (.isub, 1) := by decide +kernel
theorem dX6_append_3 : decode cX6_append 3 = .ok (.istore_n 3, 1) := by decide +kernel
theorem dX6_append_4 : decode cX6_append 4 = .ok (.iload_n 3, 1) := by decide +kernel
theorem dX6_append_5 : decode cX6_append 5 = .ok (.ifCond .lt 38, 3) := by decide +kernel
theorem dX6_append_8 : decode cX6_append 8 = .ok (.aload_n 0, 1) := by decide +kernel
theorem dX6_append_9 : decode cX6_append 9 = .ok (.getfield 9, 3) := by decide +kernel
theorem dX6_append_12 : decode cX6_append 12 = .ok (.aload_n 0, 1) := by decide +kernel
theorem dX6_append_13 : decode cX6_append 13 = .ok (.getfield 13, 3) := by decide +kernel
theorem dX6_append_16 : decode cX6_append 16 = .ok (.iload_n 1, 1) := by decide +kernel
theorem dX6_append_17 : decode cX6_append 17 = .ok (.bipush 8, 2) := by decide +kernel
theorem dX6_append_19 : decode cX6_append 19 = .ok (.iload_n 3, 1) := by decide +kernel
theorem dX6_append_20 : decode cX6_append 20 = .ok (.imul, 1) := by decide +kernel
theorem dX6_append_21 : decode cX6_append 21 = .ok (.ishr, 1) := by decide +kernel
theorem dX6_append_22 : decode cX6_append 22 = .ok (.sipush 255, 3) := by decide +kernel
theorem dX6_append_25 : decode cX6_append 25 = .ok (.iand, 1) := by decide +kernel
theorem dX6_append_26 : decode cX6_append 26 = .ok (.iastore, 1) := by decide +kernel
theorem dX6_append_27 : decode cX6_append 27 = .ok (.aload_n 0, 1) := by decide +kernel
theorem dX6_append_28 : decode cX6_append 28 = .ok (.dup, 1) := by decide +kernel
theorem dX6_append_29 : decode cX6_append 29 = .ok (.getfield 13, 3) := by decide +kernel
theorem dX6_append_32 : decode cX6_append 32 = .ok (.iconst 1, 1) := by decide +kernel
theorem dX6_append_33 : decode cX6_append 33 = .ok (.iadd, 1) := by decide +kernel
theorem dX6_append_34 : decode cX6_append 34 = .ok (.putfield 13, 3) := by decide +kernel
theorem dX6_append_37 : decode cX6_append 37 = .ok (.iinc 3 (-1), 3) := by decide +kernel
theorem dX6_append_40 : decode cX6_append 40 = .ok (.goto (-36), 3) := by decide +kernel
theorem dX6_append_43 : decode cX6_append 43 = .ok (.return_, 1) := by decide +kernel
theorem dX6_rewind_0 : decode cX6_rewind 0 = .ok (.aload_n 0, 1) := by decide +kernel
theorem dX6_rewind_1 : decode cX6_rewind 1 = .ok (.iconst 0, 1) := by decide +kernel
theorem dX6_rewind_2 : decode cX6_rewind 2 = .ok (.putfield 20, 3) := by decide +kernel
theorem dX6_rewind_5 : decode cX6_rewind 5 = .ok (.aload_n 0, 1) := by decide +kernel
theorem dX6_rewind_6 : decode cX6_rewind 6 = .ok (.invokevirtual 29, 3) := by decide +kernel
theorem dX6_rewind_9 : decode cX6_rewind 9 = .ok (.return_, 1) := by decide +kernel
theorem dX6_step_0 : decode cX6_step 0 = .ok (.aload_n 0, 1) := by decide +kernel
theorem dX6_step_1 : decode cX6_step 1 = .ok (.getfield 20, 3) := by decide +kernel
theorem dX6_step_4 : decode cX6_step 4 = .ok (.aload_n 0, 1) := by decide +kernel
theorem dX6_step_5 : decode cX6_step 5 = .ok (.getfield 13, 3) := by decide +kernel
theorem dX6_step_8 : decode cX6_step 8 = .ok (.if_icmp .ge 30, 3) := by decide +kernel
theorem dX6_step_11 : decode cX6_step 11 = .ok (.aload_n 0, 1) := by decide +kernel
theorem dX6_step_12 : decode cX6_step 12 = .ok (.getfield 9, 3) := by decide +kernel
theorem dX6_step_15 : decode cX6_step 15 = .ok (.aload_n 0, 1) := by decide +kernel
theorem dX6_step_16 : decode cX6_step 16 = .ok (.getfield 20, 3) := by decide +kernel
theorem dX6_step_19 : decode cX6_step 19 = .ok (.iaload, 1) := by decide +kernel
theorem dX6_step_20 : decode cX6_step 20 = .ok (.bipush 32, 2) := by decide +kernel
theorem dX6_step_22 : decode cX6_step 22 = .ok (.if_icmp .ne 16, 3) := by decide +kernel
theorem dX6_step_25 : decode cX6_step 25 = .ok (.aload_n 0, 1) := by decide +kernel
theorem dX6_step_26 : decode cX6_step 26 = .ok (.dup, 1) := by decide +kernel
theorem dX6_step_27 : decode cX6_step 27 = .ok (.getfield 20, 3) := by decide +kernel
theorem dX6_step_30 : decode cX6_step 30 = .ok (.iconst 1, 1) := by decide +kernel
theorem dX6_step_31 : decode cX6_step 31 = .ok (.iadd, 1) := by decide +kernel
theorem dX6_step_32 : decode cX6_step 32 = .ok (.putfield 20, 3) := by decide +kernel
theorem dX6_step_35 : decode cX6_step 35 = .ok (.goto (-35), 3) := by decide +kernel
theorem dX6_step_38 : decode cX6_step 38 = .ok (.aload_n 0, 1) := by decide +kernel
theorem dX6_step_39 : decode cX6_step 39 = .ok (.aload_n 0, 1) := by decide +kernel
theorem dX6_step_40 : decode cX6_step 40 = .ok (.getfield 20, 3) := by decide +kernel
theorem dX6_step_43 : decode cX6_step 43 = .ok (.putfield 17, 3) := by decide +kernel
theorem dX6_step_46 : decode cX6_step 46 = .ok (.aload_n 0, 1) := by decide +kernel
theorem dX6_step_47 : decode cX6_step 47 = .ok (.getfield 17, 3) := by decide +kernel
theorem dX6_step_50 : decode cX6_step 50 = .ok (.aload_n 0, 1) := by decide +kernel
theorem dX6_step_51 : decode cX6_step 51 = .ok (.getfield 13, 3) := by decide +kernel
theorem dX6_step_54 : decode cX6_step 54 = .ok (.if_icmp .lt 11, 3) := by decide +kernel
theorem dX6_step_57 : decode cX6_step 57 = .ok (.aload_n 0, 1) := by decide +kernel
theorem dX6_step_58 : decode cX6_step 58 = .ok (.iconst 0, 1) := by decide +kernel
theorem dX6_step_59 : decode cX6_step 59 = .ok (.putfield 23, 3) := by decide +kernel
theorem dX6_step_62 : decode cX6_step 62 = .ok (.goto 80, 3) := by decide +kernel
theorem dX6_step_65 : decode cX6_step 65 = .ok (.aload_n 0, 1) := by decide +kernel
theorem dX6_step_66 : decode cX6_step 66 = .ok (.getfield 9, 3) := by decide +kernel
theorem dX6_step_69 : decode cX6_step 69 = .ok (.aload_n 0, 1) := by decide +kernel
theorem dX6_step_70 : decode cX6_step 70 = .ok (.getfield 17, 3) := by decide +kernel
theorem dX6_step_73 : decode cX6_step 73 = .ok (.iaload, 1) := by decide +kernel
theorem dX6_step_74 : decode cX6_step 74 = .ok (.invokestatic 32, 3) := by decide +kernel
theorem dX6_step_77 : decode cX6_step 77 = .ok (.ifCond .eq 10, 3) := by decide +kernel
theorem dX6_step_80 : decode cX6_step 80 = .ok (.aload_n 0, 1) := by decide +kernel
theorem dX6_step_81 : decode cX6_step 81 = .ok (.invokevirtual 36, 3) := by decide +kernel
theorem dX6_step_84 : decode cX6_step 84 = .ok (.goto 58, 3) := by decide +kernel
theorem dX6_step_87 : decode cX6_step 87 = .ok (.aload_n 0, 1) := by decide +kernel
theorem dX6_step_88 : decode cX6_step 88 = .ok (.getfield 9, 3) := by decide +kernel
theorem dX6_step_91 : decode cX6_step 91 = .ok (.aload_n 0, 1) := by decide +kernel
theorem dX6_step_92 : decode cX6_step 92 = .ok (.getfield 17, 3) := by decide +kernel
theorem dX6_step_95 : decode cX6_step 95 = .ok (.iaload, 1) := by decide +kernel
theorem dX6_step_96 : decode cX6_step 96 = .ok (.invokestatic 39, 3) := by decide +kernel
theorem dX6_step_99 : decode cX6_step 99 = .ok (.ifCond .eq 10, 3) := by decide +kernel
theorem dX6_step_102 : decode cX6_step 102 = .ok (.aload_n 0, 1) := by decide +kernel
theorem dX6_step_103 : decode cX6_step 103 = .ok (.invokevirtual 42, 3) := by decide +kernel
theorem dX6_step_106 : decode cX6_step 106 = .ok (.goto 36, 3) := by decide +kernel
theorem dX6_step_109 : decode cX6_step 109 = .ok (.aload_n 0, 1) := by decide +kernel
theorem dX6_step_110 : decode cX6_step 110 = .ok (.aload_n 0, 1) := by decide +kernel
theorem dX6_step_111 : decode cX6_step 111 = .ok (.getfield 9, 3) := by decide +kernel
theorem dX6_step_114 : decode cX6_step 114 = .ok (.aload_n 0, 1) := by decide +kernel
theorem dX6_step_115 : decode cX6_step 115 = .ok (.getfield 17, 3) := by decide +kernel
theorem dX6_step_118 : decode cX6_step 118 = .ok (.iaload, 1) := by decide +kernel
theorem dX6_step_119 : decode cX6_step 119 = .ok (.bipush 59, 2) := by decide +kernel
theorem dX6_step_121 : decode cX6_step 121 = .ok (.if_icmp .ne 7, 3) := by decide +kernel
theorem dX6_step_124 : decode cX6_step 124 = .ok (.iconst 3, 1) := by decide +kernel
theorem dX6_step_125 : decode cX6_step 125 = .ok (.goto 4, 3) := by decide +kernel
theorem dX6_step_128 : decode cX6_step 128 = .ok (.iconst 4, 1) := by decide +kernel
theorem dX6_step_129 : decode cX6_step 129 = .ok (.putfield 23, 3) := by decide +kernel
theorem dX6_step_132 : decode cX6_step 132 = .ok (.aload_n 0, 1) := by decide +kernel
theorem dX6_step_133 : decode cX6_step 133 = .ok (.dup, 1) := by decide +kernel
theorem dX6_step_134 : decode cX6_step 134 = .ok (.getfield 20, 3) := by decide +kernel
theorem dX6_step_137 : decode cX6_step 137 = .ok (.iconst 1, 1) := by decide +kernel
theorem dX6_step_138 : decode cX6_step 138 = .ok (.iadd, 1) := by decide +kernel
theorem dX6_step_139 : decode cX6_step 139 = .ok (.putfield 20, 3) := by decide +kernel
theorem dX6_step_142 : decode cX6_step 142 = .ok (.return_, 1) := by decide +kernel
theorem dX6_readWord_0 : decode cX6_readWord 0 = .ok (.aload_n 0, 1) := by decide +kernel
theorem dX6_readWord_1 : decode cX6_readWord 1 = .ok (.iconst 1, 1) := by decide +kernel
theorem dX6_readWord_2 : decode cX6_readWord 2 = .ok (.putfield 23, 3) := by decide +kernel
theorem dX6_readWord_5 : decode cX6_readWord 5 = .ok (.aload_n 0, 1) := by decide +kernel
theorem dX6_readWord_6 : decode cX6_readWord 6 = .ok (.getfield 20, 3) := by decide +kernel
theorem dX6_readWord_9 : decode cX6_readWord 9 = .ok (.aload_n 0, 1) := by decide +kernel
theorem dX6_readWord_10 : decode cX6_readWord 10 = .ok (.getfield 13, 3) := by decide +kernel
theorem dX6_readWord_13 : decode cX6_readWord 13 = .ok (.if_icmp .ge 31, 3) := by decide +kernel
theorem dX6_readWord_16 : decode cX6_readWord 16 = .ok (.aload_n 0, 1) := by decide +kernel
theorem dX6_readWord_17 : decode cX6_readWord 17 = .ok (.getfield 9, 3) := by decide +kernel
theorem dX6_readWord_20 : decode cX6_readWord 20 = .ok (.aload_n 0, 1) := by decide +kernel
theorem dX6_readWord_21 : decode cX6_readWord 21 = .ok (.getfield 20, 3) := by decide +kernel
theorem dX6_readWord_24 : decode cX6_readWord 24 = .ok (.iaload, 1) := by decide +kernel
theorem dX6_readWord_25 : decode cX6_readWord 25 = .ok (.invokestatic 32, 3) := by decide +kernel
theorem dX6_readWord_28 : decode cX6_readWord 28 = .ok (.ifCond .eq 16, 3) := by decide +kernel
theorem dX6_readWord_31 : decode cX6_readWord 31 = .ok (.aload_n 0, 1) := by decide +kernel
theorem dX6_readWord_32 : decode cX6_readWord 32 = .ok (.dup, 1) := by decide +kernel
theorem dX6_readWord_33 : decode cX6_readWord 33 = .ok (.getfield 20, 3) := by decide +kernel
theorem dX6_readWord_36 : decode cX6_readWord 36 = .ok (.iconst 1, 1) := by decide +kernel
theorem dX6_readWord_37 : decode cX6_readWord 37 = .ok (.iadd, 1) := by decide +kernel
theorem dX6_readWord_38 : decode cX6_readWord 38 = .ok (.putfield 20, 3) := by decide +kernel
theorem dX6_readWord_41 : decode cX6_readWord 41 = .ok (.goto (-36), 3) := by decide +kernel
theorem dX6_readWord_44 : decode cX6_readWord 44 = .ok (.return_, 1) := by decide +kernel
theorem dX6_readNumber_0 : decode cX6_readNumber 0 = .ok (.aload_n 0, 1) := by decide +kernel
theorem dX6_readNumber_1 : decode cX6_readNumber 1 = .ok (.iconst 2, 1) := by decide +kernel
theorem dX6_readNumber_2 : decode cX6_readNumber 2 = .ok (.putfield 23, 3) := by decide +kernel
theorem dX6_readNumber_5 : decode cX6_readNumber 5 = .ok (.aload_n 0, 1) := by decide +kernel
theorem dX6_readNumber_6 : decode cX6_readNumber 6 = .ok (.iconst 0, 1) := by decide +kernel
theorem dX6_readNumber_7 : decode cX6_readNumber 7 = .ok (.putfield 26, 3) := by decide +kernel
theorem dX6_readNumber_10 : decode cX6_readNumber 10 = .ok (.aload_n 0, 1) := by decide +kernel
theorem dX6_readNumber_11 : decode cX6_readNumber 11 = .ok (.getfield 20, 3) := by decide +kernel
theorem dX6_readNumber_14 : decode cX6_readNumber 14 = .ok (.aload_n 0, 1) := by decide +kernel
theorem dX6_readNumber_15 : decode cX6_readNumber 15 = .ok (.getfield 13, 3) := by decide +kernel
theorem dX6_readNumber_18 : decode cX6_readNumber 18 = .ok (.if_icmp .ge 61, 3) := by decide +kernel
theorem dX6_readNumber_21 : decode cX6_readNumber 21 = .ok (.aload_n 0, 1) := by decide +kernel
theorem dX6_readNumber_22 : decode cX6_readNumber 22 = .ok (.getfield 9, 3) := by decide +kernel
theorem dX6_readNumber_25 : decode cX6_readNumber 25 = .ok (.aload_n 0, 1) := by decide +kernel
theorem dX6_readNumber_26 : decode cX6_readNumber 26 = .ok (.getfield 20, 3) := by decide +kernel
theorem dX6_readNumber_29 : decode cX6_readNumber 29 = .ok (.iaload, 1) := by decide +kernel
theorem dX6_readNumber_30 : decode cX6_readNumber 30 = .ok (.invokestatic 39, 3) := by decide +kernel
theorem dX6_readNumber_33 : decode cX6_readNumber 33 = .ok (.ifCond .eq 46, 3) := by decide +kernel
theorem dX6_readNumber_36 : decode cX6_readNumber 36 = .ok (.aload_n 0, 1) := by decide +kernel
theorem dX6_readNumber_37 : decode cX6_readNumber 37 = .ok (.sipush 1000, 3) := by decide +kernel
theorem dX6_readNumber_40 : decode cX6_readNumber 40 = .ok (.aload_n 0, 1) := by decide +kernel
theorem dX6_readNumber_41 : decode cX6_readNumber 41 = .ok (.getfield 26, 3) := by decide +kernel
theorem dX6_readNumber_44 : decode cX6_readNumber 44 = .ok (.bipush 10, 2) := by decide +kernel
theorem dX6_readNumber_46 : decode cX6_readNumber 46 = .ok (.imul, 1) := by decide +kernel
theorem dX6_readNumber_47 : decode cX6_readNumber 47 = .ok (.aload_n 0, 1) := by decide +kernel
theorem dX6_readNumber_48 : decode cX6_readNumber 48 = .ok (.getfield 9, 3) := by decide +kernel
theorem dX6_readNumber_51 : decode cX6_readNumber 51 = .ok (.aload_n 0, 1) := by decide +kernel
theorem dX6_readNumber_52 : decode cX6_readNumber 52 = .ok (.getfield 20, 3) := by decide +kernel
theorem dX6_readNumber_55 : decode cX6_readNumber 55 = .ok (.iaload, 1) := by decide +kernel
theorem dX6_readNumber_56 : decode cX6_readNumber 56 = .ok (.iadd, 1) := by decide +kernel
theorem dX6_readNumber_57 : decode cX6_readNumber 57 = .ok (.bipush 48, 2) := by decide +kernel
theorem dX6_readNumber_59 : decode cX6_readNumber 59 = .ok (.isub, 1) := by decide +kernel
theorem dX6_readNumber_60 : decode cX6_readNumber 60 = .ok (.invokestatic 45, 3) := by decide +kernel
theorem dX6_readNumber_63 : decode cX6_readNumber 63 = .ok (.putfield 26, 3) := by decide +kernel
theorem dX6_readNumber_66 : decode cX6_readNumber 66 = .ok (.aload_n 0, 1) := by decide +kernel
theorem dX6_readNumber_67 : decode cX6_readNumber 67 = .ok (.dup, 1) := by decide +kernel
theorem dX6_readNumber_68 : decode cX6_readNumber 68 = .ok (.getfield 20, 3) := by decide +kernel
theorem dX6_readNumber_71 : decode cX6_readNumber 71 = .ok (.iconst 1, 1) := by decide +kernel
theorem dX6_readNumber_72 : decode cX6_readNumber 72 = .ok (.iadd, 1) := by decide +kernel
theorem dX6_readNumber_73 : decode cX6_readNumber 73 = .ok (.putfield 20, 3) := by decide +kernel
theorem dX6_readNumber_76 : decode cX6_readNumber 76 = .ok (.goto (-66), 3) := by decide +kernel
theorem dX6_readNumber_79 : decode cX6_readNumber 79 = .ok (.return_, 1) := by decide +kernel
theorem dX6_isLetter_0 : decode cX6_isLetter 0 = .ok (.iload_n 0, 1) := by decide +kernel
theorem dX6_isLetter_1 : decode cX6_isLetter 1 = .ok (.bipush 97, 2) := by decide +kernel
theorem dX6_isLetter_3 : decode cX6_isLetter 3 = .ok (.if_icmp .lt 13, 3) := by decide +kernel
theorem dX6_isLetter_6 : decode cX6_isLetter 6 = .ok (.iload_n 0, 1) := by decide +kernel
theorem dX6_isLetter_7 : decode cX6_isLetter 7 = .ok (.bipush 122, 2) := by decide +kernel
theorem dX6_isLetter_9 : decode cX6_isLetter 9 = .ok (.if_icmp .gt 7, 3) := by decide +kernel
theorem dX6_isLetter_12 : decode cX6_isLetter 12 = .ok (.iconst 1, 1) := by decide +kernel
theorem dX6_isLetter_13 : decode cX6_isLetter 13 = .ok (.goto 4, 3) := by decide +kernel
theorem dX6_isLetter_16 : decode cX6_isLetter 16 = .ok (.iconst 0, 1) := by decide +kernel
theorem dX6_isLetter_17 : decode cX6_isLetter 17 = .ok (.ireturn, 1) := by decide +kernel
theorem dX6_isDigit_0 : decode cX6_isDigit 0 = .ok (.iload_n 0, 1) := by decide +kernel
theorem dX6_isDigit_1 : decode cX6_isDigit 1 = .ok (.bipush 48, 2) := by decide +kernel
theorem dX6_isDigit_3 : decode cX6_isDigit 3 = .ok (.if_icmp .lt 13, 3) := by decide +kernel
theorem dX6_isDigit_6 : decode cX6_isDigit 6 = .ok (.iload_n 0, 1) := by decide +kernel
theorem dX6_isDigit_7 : decode cX6_isDigit 7 = .ok (.bipush 57, 2) := by decide +kernel
theorem dX6_isDigit_9 : decode cX6_isDigit 9 = .ok (.if_icmp .gt 7, 3) := by decide +kernel
theorem dX6_isDigit_12 : decode cX6_isDigit 12 = .ok (.iconst 1, 1) := by decide +kernel
theorem dX6_isDigit_13 : decode cX6_isDigit 13 = .ok (.goto 4, 3) := by decide +kernel
theorem dX6_isDigit_16 : decode cX6_isDigit 16 = .ok (.iconst 0, 1) := by decide +kernel
theorem dX6_isDigit_17 : decode cX6_isDigit 17 = .ok (.ireturn, 1) := by decide +kernel
theorem dX6_isWord_0 : decode cX6_isWord 0 = .ok (.aload_n 1, 1) := by decide +kernel
theorem dX6_isWord_1 : decode cX6_isWord 1 = .ok (.invokevirtual 51, 3) := by decide +kernel
theorem dX6_isWord_4 : decode cX6_isWord 4 = .ok (.istore_n 2, 1) := by decide +kernel
theorem dX6_isWord_5 : decode cX6_isWord 5 = .ok (.aload_n 0, 1) := by decide +kernel
theorem dX6_isWord_6 : decode cX6_isWord 6 = .ok (.getfield 23, 3) := by decide +kernel
theorem dX6_isWord_9 : decode cX6_isWord 9 = .ok (.iconst 1, 1) := by decide +kernel
theorem dX6_isWord_10 : decode cX6_isWord 10 = .ok (.if_icmp .ne 16, 3) := by decide +kernel
theorem dX6_isWord_13 : decode cX6_isWord 13 = .ok (.aload_n 0, 1) := by decide +kernel
theorem dX6_isWord_14 : decode cX6_isWord 14 = .ok (.getfield 20, 3) := by decide +kernel
theorem dX6_isWord_17 : decode cX6_isWord 17 = .ok (.aload_n 0, 1) := by decide +kernel
theorem dX6_isWord_18 : decode cX6_isWord 18 = .ok (.getfield 17, 3) := by decide +kernel
theorem dX6_isWord_21 : decode cX6_isWord 21 = .ok (.isub, 1) := by decide +kernel
theorem dX6_isWord_22 : decode cX6_isWord 22 = .ok (.iload_n 2, 1) := by decide +kernel
theorem dX6_isWord_23 : decode cX6_isWord 23 = .ok (.if_icmp .eq 5, 3) := by decide +kernel
theorem dX6_isWord_26 : decode cX6_isWord 26 = .ok (.iconst 0, 1) := by decide +kernel
theorem dX6_isWord_27 : decode cX6_isWord 27 = .ok (.ireturn, 1) := by decide +kernel
theorem dX6_isWord_28 : decode cX6_isWord 28 = .ok (.iconst 0, 1) := by decide +kernel
theorem dX6_isWord_29 : decode cX6_isWord 29 = .ok (.istore_n 3, 1) := by decide +kernel
theorem dX6_isWord_30 : decode cX6_isWord 30 = .ok (.iload_n 3, 1) := by decide +kernel
theorem dX6_isWord_31 : decode cX6_isWord 31 = .ok (.iload_n 2, 1) := by decide +kernel
theorem dX6_isWord_32 : decode cX6_isWord 32 = .ok (.if_icmp .ge 30, 3) := by decide +kernel
theorem dX6_isWord_35 : decode cX6_isWord 35 = .ok (.aload_n 0, 1) := by decide +kernel
theorem dX6_isWord_36 : decode cX6_isWord 36 = .ok (.getfield 9, 3) := by decide +kernel
theorem dX6_isWord_39 : decode cX6_isWord 39 = .ok (.aload_n 0, 1) := by decide +kernel
theorem dX6_isWord_40 : decode cX6_isWord 40 = .ok (.getfield 17, 3) := by decide +kernel
theorem dX6_isWord_43 : decode cX6_isWord 43 = .ok (.iload_n 3, 1) := by decide +kernel
theorem dX6_isWord_44 : decode cX6_isWord 44 = .ok (.iadd, 1) := by decide +kernel
theorem dX6_isWord_45 : decode cX6_isWord 45 = .ok (.iaload, 1) := by decide +kernel
theorem dX6_isWord_46 : decode cX6_isWord 46 = .ok (.aload_n 1, 1) := by decide +kernel
theorem dX6_isWord_47 : decode cX6_isWord 47 = .ok (.iload_n 3, 1) := by decide +kernel
theorem dX6_isWord_48 : decode cX6_isWord 48 = .ok (.invokevirtual 56, 3) := by decide +kernel
theorem dX6_isWord_51 : decode cX6_isWord 51 = .ok (.if_icmp .eq 5, 3) := by decide +kernel
theorem dX6_isWord_54 : decode cX6_isWord 54 = .ok (.iconst 0, 1) := by decide +kernel
theorem dX6_isWord_55 : decode cX6_isWord 55 = .ok (.ireturn, 1) := by decide +kernel
theorem dX6_isWord_56 : decode cX6_isWord 56 = .ok (.iinc 3 1, 3) := by decide +kernel
theorem dX6_isWord_59 : decode cX6_isWord 59 = .ok (.goto (-29), 3) := by decide +kernel
theorem dX6_isWord_62 : decode cX6_isWord 62 = .ok (.iconst 1, 1) := by decide +kernel
theorem dX6_isWord_63 : decode cX6_isWord 63 = .ok (.ireturn, 1) := by decide +kernel
theorem dX7_init_0 : decode cX7_init 0 = .ok (.aload_n 0, 1) := by decide +kernel
theorem dX7_init_1 : decode cX7_init 1 = .ok (.invokespecial 3, 3) := by decide +kernel
theorem dX7_init_4 : decode cX7_init 4 = .ok (.aload_n 0, 1) := by decide +kernel
theorem dX7_init_5 : decode cX7_init 5 = .ok (.aload_n 1, 1) := by decide +kernel
theorem dX7_init_6 : decode cX7_init 6 = .ok (.putfield 9, 3) := by decide +kernel
theorem dX7_init_9 : decode cX7_init 9 = .ok (.aload_n 0, 1) := by decide +kernel
theorem dX7_init_10 : decode cX7_init 10 = .ok (.aload_n 2, 1) := by decide +kernel
theorem dX7_init_11 : decode cX7_init 11 = .ok (.putfield 15, 3) := by decide +kernel
theorem dX7_init_14 : decode cX7_init 14 = .ok (.return_, 1) := by decide +kernel
theorem dX7_readText_0 : decode cX7_readText 0 = .ok (.aload_n 0, 1) := by decide +kernel
theorem dX7_readText_1 : decode cX7_readText 1 = .ok (.getfield 9, 3) := by decide +kernel
theorem dX7_readText_4 : decode cX7_readText 4 = .ok (.invokevirtual 19, 3) := by decide +kernel
theorem dX7_readText_7 : decode cX7_readText 7 = .ok (.iconst 1, 1) := by decide +kernel
theorem dX7_readText_8 : decode cX7_readText 8 = .ok (.istore_n 1, 1) := by decide +kernel
theorem dX7_readText_9 : decode cX7_readText 9 = .ok (.iload_n 1, 1) := by decide +kernel
theorem dX7_readText_10 : decode cX7_readText 10 = .ok (.bipush 120, 2) := by decide +kernel
theorem dX7_readText_12 : decode cX7_readText 12 = .ok (.if_icmp .gt 52, 3) := by decide +kernel
theorem dX7_readText_15 : decode cX7_readText 15 = .ok (.aload_n 0, 1) := by decide +kernel
theorem dX7_readText_16 : decode cX7_readText 16 = .ok (.invokevirtual 24, 3) := by decide +kernel
theorem dX7_readText_19 : decode cX7_readText 19 = .ok (.ifCond .ne 6, 3) := by decide +kernel
theorem dX7_readText_22 : decode cX7_readText 22 = .ok (.goto 42, 3) := by decide +kernel
theorem dX7_readText_25 : decode cX7_readText 25 = .ok (.aload_n 0, 1) := by decide +kernel
theorem dX7_readText_26 : decode cX7_readText 26 = .ok (.getfield 9, 3) := by decide +kernel
theorem dX7_readText_29 : decode cX7_readText 29 = .ok (.getfield 28, 3) := by decide +kernel
theorem dX7_readText_32 : decode cX7_readText 32 = .ok (.ifCond .ne 5, 3) := by decide +kernel
theorem dX7_readText_35 : decode cX7_readText 35 = .ok (.iload_n 1, 1) := by decide +kernel
theorem dX7_readText_36 : decode cX7_readText 36 = .ok (.ireturn, 1) := by decide +kernel
theorem dX7_readText_37 : decode cX7_readText 37 = .ok (.aload_n 0, 1) := by decide +kernel
theorem dX7_readText_38 : decode cX7_readText 38 = .ok (.getfield 9, 3) := by decide +kernel
theorem dX7_readText_41 : decode cX7_readText 41 = .ok (.getfield 28, 3) := by decide +kernel
theorem dX7_readText_44 : decode cX7_readText 44 = .ok (.iconst 3, 1) := by decide +kernel
theorem dX7_readText_45 : decode cX7_readText 45 = .ok (.if_icmp .eq 6, 3) := by decide +kernel
theorem dX7_readText_48 : decode cX7_readText 48 = .ok (.goto 16, 3) := by decide +kernel
theorem dX7_readText_51 : decode cX7_readText 51 = .ok (.aload_n 0, 1) := by decide +kernel
theorem dX7_readText_52 : decode cX7_readText 52 = .ok (.getfield 9, 3) := by decide +kernel
theorem dX7_readText_55 : decode cX7_readText 55 = .ok (.invokevirtual 32, 3) := by decide +kernel
theorem dX7_readText_58 : decode cX7_readText 58 = .ok (.iinc 1 1, 3) := by decide +kernel
theorem dX7_readText_61 : decode cX7_readText 61 = .ok (.goto (-52), 3) := by decide +kernel
theorem dX7_readText_64 : decode cX7_readText 64 = .ok (.iconst (-1), 1) := by decide +kernel
theorem dX7_readText_65 : decode cX7_readText 65 = .ok (.aload_n 0, 1) := by decide +kernel
theorem dX7_readText_66 : decode cX7_readText 66 = .ok (.getfield 9, 3) := by decide +kernel
theorem dX7_readText_69 : decode cX7_readText 69 = .ok (.getfield 35, 3) := by decide +kernel
theorem dX7_readText_72 : decode cX7_readText 72 = .ok (.isub, 1) := by decide +kernel
theorem dX7_readText_73 : decode cX7_readText 73 = .ok (.ireturn, 1) := by decide +kernel
theorem dX7_readItem_0 : decode cX7_readItem 0 = .ok (.aload_n 0, 1) := by decide +kernel
theorem dX7_readItem_1 : decode cX7_readItem 1 = .ok (.getfield 9, 3) := by decide +kernel
theorem dX7_readItem_4 : decode cX7_readItem 4 = .ok (.ldc 38, 2) := by decide +kernel
theorem dX7_readItem_6 : decode cX7_readItem 6 = .ok (.invokevirtual 40, 3) := by decide +kernel
theorem dX7_readItem_9 : decode cX7_readItem 9 = .ok (.ifCond .eq 8, 3) := by decide +kernel
theorem dX7_readItem_12 : decode cX7_readItem 12 = .ok (.aload_n 0, 1) := by decide +kernel
theorem dX7_readItem_13 : decode cX7_readItem 13 = .ok (.invokevirtual 44, 3) := by decide +kernel
theorem dX7_readItem_16 : decode cX7_readItem 16 = .ok (.ireturn, 1) := by decide +kernel
theorem dX7_readItem_17 : decode cX7_readItem 17 = .ok (.aload_n 0, 1) := by decide +kernel
theorem dX7_readItem_18 : decode cX7_readItem 18 = .ok (.getfield 9, 3) := by decide +kernel
theorem dX7_readItem_21 : decode cX7_readItem 21 = .ok (.ldc 47, 2) := by decide +kernel
theorem dX7_readItem_23 : decode cX7_readItem 23 = .ok (.invokevirtual 40, 3) := by decide +kernel
theorem dX7_readItem_26 : decode cX7_readItem 26 = .ok (.ifCond .eq 9, 3) := by decide +kernel
theorem dX7_readItem_29 : decode cX7_readItem 29 = .ok (.aload_n 0, 1) := by decide +kernel
theorem dX7_readItem_30 : decode cX7_readItem 30 = .ok (.iconst 0, 1) := by decide +kernel
theorem dX7_readItem_31 : decode cX7_readItem 31 = .ok (.invokevirtual 49, 3) := by decide +kernel
theorem dX7_readItem_34 : decode cX7_readItem 34 = .ok (.ireturn, 1) := by decide +kernel
theorem dX7_readItem_35 : decode cX7_readItem 35 = .ok (.aload_n 0, 1) := by decide +kernel
theorem dX7_readItem_36 : decode cX7_readItem 36 = .ok (.getfield 9, 3) := by decide +kernel
theorem dX7_readItem_39 : decode cX7_readItem 39 = .ok (.ldc 53, 2) := by decide +kernel
theorem dX7_readItem_41 : decode cX7_readItem 41 = .ok (.invokevirtual 40, 3) := by decide +kernel
theorem dX7_readItem_44 : decode cX7_readItem 44 = .ok (.ifCond .eq 9, 3) := by decide +kernel
theorem dX7_readItem_47 : decode cX7_readItem 47 = .ok (.aload_n 0, 1) := by decide +kernel
theorem dX7_readItem_48 : decode cX7_readItem 48 = .ok (.iconst 1, 1) := by decide +kernel
theorem dX7_readItem_49 : decode cX7_readItem 49 = .ok (.invokevirtual 49, 3) := by decide +kernel
theorem dX7_readItem_52 : decode cX7_readItem 52 = .ok (.ireturn, 1) := by decide +kernel
theorem dX7_readItem_53 : decode cX7_readItem 53 = .ok (.aload_n 0, 1) := by decide +kernel
theorem dX7_readItem_54 : decode cX7_readItem 54 = .ok (.getfield 9, 3) := by decide +kernel
theorem dX7_readItem_57 : decode cX7_readItem 57 = .ok (.ldc 55, 2) := by decide +kernel
theorem dX7_readItem_59 : decode cX7_readItem 59 = .ok (.invokevirtual 40, 3) := by decide +kernel
theorem dX7_readItem_62 : decode cX7_readItem 62 = .ok (.ifCond .eq 9, 3) := by decide +kernel
theorem dX7_readItem_65 : decode cX7_readItem 65 = .ok (.aload_n 0, 1) := by decide +kernel
theorem dX7_readItem_66 : decode cX7_readItem 66 = .ok (.iconst 2, 1) := by decide +kernel
theorem dX7_readItem_67 : decode cX7_readItem 67 = .ok (.invokevirtual 49, 3) := by decide +kernel
theorem dX7_readItem_70 : decode cX7_readItem 70 = .ok (.ireturn, 1) := by decide +kernel
theorem dX7_readItem_71 : decode cX7_readItem 71 = .ok (.aload_n 0, 1) := by decide +kernel
theorem dX7_readItem_72 : decode cX7_readItem 72 = .ok (.invokevirtual 57, 3) := by decide +kernel
theorem dX7_readItem_75 : decode cX7_readItem 75 = .ok (.ireturn, 1) := by decide +kernel
theorem dX7_readBatch_0 : decode cX7_readBatch 0 = .ok (.aload_n 0, 1) := by decide +kernel
theorem dX7_readBatch_1 : decode cX7_readBatch 1 = .ok (.invokevirtual 60, 3) := by decide +kernel
theorem dX7_readBatch_4 : decode cX7_readBatch 4 = .ok (.istore_n 1, 1) := by decide +kernel
theorem dX7_readBatch_5 : decode cX7_readBatch 5 = .ok (.iload_n 1, 1) := by decide +kernel
theorem dX7_readBatch_6 : decode cX7_readBatch 6 = .ok (.ifCond .lt 16, 3) := by decide +kernel
theorem dX7_readBatch_9 : decode cX7_readBatch 9 = .ok (.aload_n 0, 1) := by decide +kernel
theorem dX7_readBatch_10 : decode cX7_readBatch 10 = .ok (.getfield 15, 3) := by decide +kernel
theorem dX7_readBatch_13 : decode cX7_readBatch 13 = .ok (.getfield 64, 3) := by decide +kernel
theorem dX7_readBatch_16 : decode cX7_readBatch 16 = .ok (.invokevirtual 70, 3) := by decide +kernel
theorem dX7_readBatch_19 : decode cX7_readBatch 19 = .ok (.ifCond .eq 5, 3) := by decide +kernel
theorem dX7_readBatch_22 : decode cX7_readBatch 22 = .ok (.iconst 0, 1) := by decide +kernel
theorem dX7_readBatch_23 : decode cX7_readBatch 23 = .ok (.ireturn, 1) := by decide +kernel
theorem dX7_readBatch_24 : decode cX7_readBatch 24 = .ok (.aload_n 0, 1) := by decide +kernel
theorem dX7_readBatch_25 : decode cX7_readBatch 25 = .ok (.getfield 15, 3) := by decide +kernel
theorem dX7_readBatch_28 : decode cX7_readBatch 28 = .ok (.getfield 64, 3) := by decide +kernel
theorem dX7_readBatch_31 : decode cX7_readBatch 31 = .ok (.iload_n 1, 1) := by decide +kernel
theorem dX7_readBatch_32 : decode cX7_readBatch 32 = .ok (.invokevirtual 75, 3) := by decide +kernel
theorem dX7_readBatch_35 : decode cX7_readBatch 35 = .ok (.istore_n 2, 1) := by decide +kernel
theorem dX7_readBatch_36 : decode cX7_readBatch 36 = .ok (.aload_n 0, 1) := by decide +kernel
theorem dX7_readBatch_37 : decode cX7_readBatch 37 = .ok (.getfield 9, 3) := by decide +kernel
theorem dX7_readBatch_40 : decode cX7_readBatch 40 = .ok (.invokevirtual 32, 3) := by decide +kernel
theorem dX7_readBatch_43 : decode cX7_readBatch 43 = .ok (.aload_n 0, 1) := by decide +kernel
theorem dX7_readBatch_44 : decode cX7_readBatch 44 = .ok (.getfield 9, 3) := by decide +kernel
theorem dX7_readBatch_47 : decode cX7_readBatch 47 = .ok (.ldc 79, 2) := by decide +kernel
theorem dX7_readBatch_49 : decode cX7_readBatch 49 = .ok (.invokevirtual 40, 3) := by decide +kernel
theorem dX7_readBatch_52 : decode cX7_readBatch 52 = .ok (.ifCond .eq 30, 3) := by decide +kernel
theorem dX7_readBatch_55 : decode cX7_readBatch 55 = .ok (.aload_n 0, 1) := by decide +kernel
theorem dX7_readBatch_56 : decode cX7_readBatch 56 = .ok (.sipush 999, 3) := by decide +kernel
theorem dX7_readBatch_59 : decode cX7_readBatch 59 = .ok (.invokevirtual 81, 3) := by decide +kernel
theorem dX7_readBatch_62 : decode cX7_readBatch 62 = .ok (.istore_n 3, 1) := by decide +kernel
theorem dX7_readBatch_63 : decode cX7_readBatch 63 = .ok (.iload_n 3, 1) := by decide +kernel
theorem dX7_readBatch_64 : decode cX7_readBatch 64 = .ok (.ifCond .ge 5, 3) := by decide +kernel
theorem dX7_readBatch_67 : decode cX7_readBatch 67 = .ok (.iconst 0, 1) := by decide +kernel
theorem dX7_readBatch_68 : decode cX7_readBatch 68 = .ok (.ireturn, 1) := by decide +kernel
theorem dX7_readBatch_69 : decode cX7_readBatch 69 = .ok (.aload_n 0, 1) := by decide +kernel
theorem dX7_readBatch_70 : decode cX7_readBatch 70 = .ok (.getfield 15, 3) := by decide +kernel
theorem dX7_readBatch_73 : decode cX7_readBatch 73 = .ok (.getfield 64, 3) := by decide +kernel
theorem dX7_readBatch_76 : decode cX7_readBatch 76 = .ok (.getfield 84, 3) := by decide +kernel
theorem dX7_readBatch_79 : decode cX7_readBatch 79 = .ok (.iload_n 2, 1) := by decide +kernel
theorem dX7_readBatch_80 : decode cX7_readBatch 80 = .ok (.iload_n 3, 1) := by decide +kernel
theorem dX7_readBatch_81 : decode cX7_readBatch 81 = .ok (.iastore, 1) := by decide +kernel
theorem dX7_readBatch_82 : decode cX7_readBatch 82 = .ok (.aload_n 0, 1) := by decide +kernel
theorem dX7_readBatch_83 : decode cX7_readBatch 83 = .ok (.invokevirtual 87, 3) := by decide +kernel
theorem dX7_readBatch_86 : decode cX7_readBatch 86 = .ok (.istore_n 3, 1) := by decide +kernel
theorem dX7_readBatch_87 : decode cX7_readBatch 87 = .ok (.iload_n 3, 1) := by decide +kernel
theorem dX7_readBatch_88 : decode cX7_readBatch 88 = .ok (.ifCond .ne 5, 3) := by decide +kernel
theorem dX7_readBatch_91 : decode cX7_readBatch 91 = .ok (.iconst 1, 1) := by decide +kernel
theorem dX7_readBatch_92 : decode cX7_readBatch 92 = .ok (.ireturn, 1) := by decide +kernel
theorem dX7_readBatch_93 : decode cX7_readBatch 93 = .ok (.aload_n 0, 1) := by decide +kernel
theorem dX7_readBatch_94 : decode cX7_readBatch 94 = .ok (.getfield 15, 3) := by decide +kernel
theorem dX7_readBatch_97 : decode cX7_readBatch 97 = .ok (.getfield 64, 3) := by decide +kernel
theorem dX7_readBatch_100 : decode cX7_readBatch 100 = .ok (.iload_n 3, 1) := by decide +kernel
theorem dX7_readBatch_101 : decode cX7_readBatch 101 = .ok (.invokevirtual 90, 3) := by decide +kernel
theorem dX7_readBatch_104 : decode cX7_readBatch 104 = .ok (.ifCond .ne 5, 3) := by decide +kernel
theorem dX7_readBatch_107 : decode cX7_readBatch 107 = .ok (.iconst 0, 1) := by decide +kernel
theorem dX7_readBatch_108 : decode cX7_readBatch 108 = .ok (.ireturn, 1) := by decide +kernel
theorem dX7_readBatch_109 : decode cX7_readBatch 109 = .ok (.aload_n 0, 1) := by decide +kernel
theorem dX7_readBatch_110 : decode cX7_readBatch 110 = .ok (.getfield 15, 3) := by decide +kernel
theorem dX7_readBatch_113 : decode cX7_readBatch 113 = .ok (.getfield 64, 3) := by decide +kernel
theorem dX7_readBatch_116 : decode cX7_readBatch 116 = .ok (.iload_n 2, 1) := by decide +kernel
theorem dX7_readBatch_117 : decode cX7_readBatch 117 = .ok (.iload_n 3, 1) := by decide +kernel
theorem dX7_readBatch_118 : decode cX7_readBatch 118 = .ok (.invokevirtual 93, 3) := by decide +kernel
theorem dX7_readBatch_121 : decode cX7_readBatch 121 = .ok (.pop, 1) := by decide +kernel
theorem dX7_readBatch_122 : decode cX7_readBatch 122 = .ok (.aload_n 0, 1) := by decide +kernel
theorem dX7_readBatch_123 : decode cX7_readBatch 123 = .ok (.getfield 9, 3) := by decide +kernel
theorem dX7_readBatch_126 : decode cX7_readBatch 126 = .ok (.invokevirtual 32, 3) := by decide +kernel
theorem dX7_readBatch_129 : decode cX7_readBatch 129 = .ok (.iconst 1, 1) := by decide +kernel
theorem dX7_readBatch_130 : decode cX7_readBatch 130 = .ok (.ireturn, 1) := by decide +kernel
theorem dX7_readCrowd_0 : decode cX7_readCrowd 0 = .ok (.aload_n 0, 1) := by decide +kernel
theorem dX7_readCrowd_1 : decode cX7_readCrowd 1 = .ok (.getfield 15, 3) := by decide +kernel
theorem dX7_readCrowd_4 : decode cX7_readCrowd 4 = .ok (.getfield 97, 3) := by decide +kernel
theorem dX7_readCrowd_7 : decode cX7_readCrowd 7 = .ok (.invokevirtual 101, 3) := by decide +kernel
theorem dX7_readCrowd_10 : decode cX7_readCrowd 10 = .ok (.ifCond .eq 5, 3) := by decide +kernel
theorem dX7_readCrowd_13 : decode cX7_readCrowd 13 = .ok (.iconst 0, 1) := by decide +kernel
theorem dX7_readCrowd_14 : decode cX7_readCrowd 14 = .ok (.ireturn, 1) := by decide +kernel
theorem dX7_readCrowd_15 : decode cX7_readCrowd 15 = .ok (.aload_n 0, 1) := by decide +kernel
theorem dX7_readCrowd_16 : decode cX7_readCrowd 16 = .ok (.sipush 400, 3) := by decide +kernel
theorem dX7_readCrowd_19 : decode cX7_readCrowd 19 = .ok (.invokevirtual 81, 3) := by decide +kernel
theorem dX7_readCrowd_22 : decode cX7_readCrowd 22 = .ok (.istore_n 1, 1) := by decide +kernel
theorem dX7_readCrowd_23 : decode cX7_readCrowd 23 = .ok (.iload_n 1, 1) := by decide +kernel
theorem dX7_readCrowd_24 : decode cX7_readCrowd 24 = .ok (.ifCond .lt 15, 3) := by decide +kernel
theorem dX7_readCrowd_27 : decode cX7_readCrowd 27 = .ok (.aload_n 0, 1) := by decide +kernel
theorem dX7_readCrowd_28 : decode cX7_readCrowd 28 = .ok (.getfield 9, 3) := by decide +kernel
theorem dX7_readCrowd_31 : decode cX7_readCrowd 31 = .ok (.ldc 104, 2) := by decide +kernel
theorem dX7_readCrowd_33 : decode cX7_readCrowd 33 = .ok (.invokevirtual 40, 3) := by decide +kernel
theorem dX7_readCrowd_36 : decode cX7_readCrowd 36 = .ok (.ifCond .ne 5, 3) := by decide +kernel
theorem dX7_readCrowd_39 : decode cX7_readCrowd 39 = .ok (.iconst 0, 1) := by decide +kernel
theorem dX7_readCrowd_40 : decode cX7_readCrowd 40 = .ok (.ireturn, 1) := by decide +kernel
theorem dX7_readCrowd_41 : decode cX7_readCrowd 41 = .ok (.aload_n 0, 1) := by decide +kernel
theorem dX7_readCrowd_42 : decode cX7_readCrowd 42 = .ok (.iconst 3, 1) := by decide +kernel
theorem dX7_readCrowd_43 : decode cX7_readCrowd 43 = .ok (.invokevirtual 81, 3) := by decide +kernel
theorem dX7_readCrowd_46 : decode cX7_readCrowd 46 = .ok (.istore_n 2, 1) := by decide +kernel
theorem dX7_readCrowd_47 : decode cX7_readCrowd 47 = .ok (.iload_n 2, 1) := by decide +kernel
theorem dX7_readCrowd_48 : decode cX7_readCrowd 48 = .ok (.ifCond .lt 15, 3) := by decide +kernel
theorem dX7_readCrowd_51 : decode cX7_readCrowd 51 = .ok (.aload_n 0, 1) := by decide +kernel
theorem dX7_readCrowd_52 : decode cX7_readCrowd 52 = .ok (.getfield 9, 3) := by decide +kernel
theorem dX7_readCrowd_55 : decode cX7_readCrowd 55 = .ok (.ldc 106, 2) := by decide +kernel
theorem dX7_readCrowd_57 : decode cX7_readCrowd 57 = .ok (.invokevirtual 40, 3) := by decide +kernel
theorem dX7_readCrowd_60 : decode cX7_readCrowd 60 = .ok (.ifCond .ne 5, 3) := by decide +kernel
theorem dX7_readCrowd_63 : decode cX7_readCrowd 63 = .ok (.iconst 0, 1) := by decide +kernel
theorem dX7_readCrowd_64 : decode cX7_readCrowd 64 = .ok (.ireturn, 1) := by decide +kernel
theorem dX7_readCrowd_65 : decode cX7_readCrowd 65 = .ok (.aload_n 0, 1) := by decide +kernel
theorem dX7_readCrowd_66 : decode cX7_readCrowd 66 = .ok (.sipush 999, 3) := by decide +kernel
theorem dX7_readCrowd_69 : decode cX7_readCrowd 69 = .ok (.invokevirtual 81, 3) := by decide +kernel
theorem dX7_readCrowd_72 : decode cX7_readCrowd 72 = .ok (.istore_n 3, 1) := by decide +kernel
theorem dX7_readCrowd_73 : decode cX7_readCrowd 73 = .ok (.iload_n 3, 1) := by decide +kernel
theorem dX7_readCrowd_74 : decode cX7_readCrowd 74 = .ok (.ifCond .ge 5, 3) := by decide +kernel
theorem dX7_readCrowd_77 : decode cX7_readCrowd 77 = .ok (.iconst 0, 1) := by decide +kernel
theorem dX7_readCrowd_78 : decode cX7_readCrowd 78 = .ok (.ireturn, 1) := by decide +kernel
theorem dX7_readCrowd_79 : decode cX7_readCrowd 79 = .ok (.aload_n 0, 1) := by decide +kernel
theorem dX7_readCrowd_80 : decode cX7_readCrowd 80 = .ok (.getfield 15, 3) := by decide +kernel
theorem dX7_readCrowd_83 : decode cX7_readCrowd 83 = .ok (.getfield 97, 3) := by decide +kernel
theorem dX7_readCrowd_86 : decode cX7_readCrowd 86 = .ok (.iload_n 2, 1) := by decide +kernel
theorem dX7_readCrowd_87 : decode cX7_readCrowd 87 = .ok (.iload_n 3, 1) := by decide +kernel
theorem dX7_readCrowd_88 : decode cX7_readCrowd 88 = .ok (.iload_n 1, 1) := by decide +kernel
theorem dX7_readCrowd_89 : decode cX7_readCrowd 89 = .ok (.invokevirtual 108, 3) := by decide +kernel
theorem dX7_readCrowd_92 : decode cX7_readCrowd 92 = .ok (.pop, 1) := by decide +kernel
theorem dX7_readCrowd_93 : decode cX7_readCrowd 93 = .ok (.iconst 1, 1) := by decide +kernel
theorem dX7_readCrowd_94 : decode cX7_readCrowd 94 = .ok (.ireturn, 1) := by decide +kernel
theorem dX7_readRule_0 : decode cX7_readRule 0 = .ok (.aload_n 0, 1) := by decide +kernel
theorem dX7_readRule_1 : decode cX7_readRule 1 = .ok (.iload_n 1, 1) := by decide +kernel
theorem dX7_readRule_2 : decode cX7_readRule 2 = .ok (.invokestatic 111, 3) := by decide +kernel
theorem dX7_readRule_5 : decode cX7_readRule 5 = .ok (.invokevirtual 81, 3) := by decide +kernel
theorem dX7_readRule_8 : decode cX7_readRule 8 = .ok (.istore_n 2, 1) := by decide +kernel
theorem dX7_readRule_9 : decode cX7_readRule 9 = .ok (.iload_n 2, 1) := by decide +kernel
theorem dX7_readRule_10 : decode cX7_readRule 10 = .ok (.ifCond .ge 5, 3) := by decide +kernel
theorem dX7_readRule_13 : decode cX7_readRule 13 = .ok (.iconst 0, 1) := by decide +kernel
theorem dX7_readRule_14 : decode cX7_readRule 14 = .ok (.ireturn, 1) := by decide +kernel
theorem dX7_readRule_15 : decode cX7_readRule 15 = .ok (.aload_n 0, 1) := by decide +kernel
theorem dX7_readRule_16 : decode cX7_readRule 16 = .ok (.getfield 15, 3) := by decide +kernel
theorem dX7_readRule_19 : decode cX7_readRule 19 = .ok (.iload_n 1, 1) := by decide +kernel
theorem dX7_readRule_20 : decode cX7_readRule 20 = .ok (.iload_n 2, 1) := by decide +kernel
theorem dX7_readRule_21 : decode cX7_readRule 21 = .ok (.invokevirtual 114, 3) := by decide +kernel
theorem dX7_readRule_24 : decode cX7_readRule 24 = .ok (.iconst 1, 1) := by decide +kernel
theorem dX7_readRule_25 : decode cX7_readRule 25 = .ok (.ireturn, 1) := by decide +kernel
theorem dX7_readNumberBehind_0 : decode cX7_readNumberBehind 0 = .ok (.aload_n 0, 1) := by decide +kernel
theorem dX7_readNumberBehind_1 : decode cX7_readNumberBehind 1 = .ok (.getfield 9, 3) := by decide +kernel
theorem dX7_readNumberBehind_4 : decode cX7_readNumberBehind 4 = .ok (.invokevirtual 32, 3) := by decide +kernel
theorem dX7_readNumberBehind_7 : decode cX7_readNumberBehind 7 = .ok (.aload_n 0, 1) := by decide +kernel
theorem dX7_readNumberBehind_8 : decode cX7_readNumberBehind 8 = .ok (.getfield 9, 3) := by decide +kernel
theorem dX7_readNumberBehind_11 : decode cX7_readNumberBehind 11 = .ok (.getfield 28, 3) := by decide +kernel
theorem dX7_readNumberBehind_14 : decode cX7_readNumberBehind 14 = .ok (.iconst 2, 1) := by decide +kernel
theorem dX7_readNumberBehind_15 : decode cX7_readNumberBehind 15 = .ok (.if_icmp .ne 14, 3) := by decide +kernel
theorem dX7_readNumberBehind_18 : decode cX7_readNumberBehind 18 = .ok (.aload_n 0, 1) := by decide +kernel
theorem dX7_readNumberBehind_19 : decode cX7_readNumberBehind 19 = .ok (.getfield 9, 3) := by decide +kernel
theorem dX7_readNumberBehind_22 : decode cX7_readNumberBehind 22 = .ok (.getfield 118, 3) := by decide +kernel
theorem dX7_readNumberBehind_25 : decode cX7_readNumberBehind 25 = .ok (.iload_n 1, 1) := by decide +kernel
theorem dX7_readNumberBehind_26 : decode cX7_readNumberBehind 26 = .ok (.if_icmp .le 5, 3) := by decide +kernel
theorem dX7_readNumberBehind_29 : decode cX7_readNumberBehind 29 = .ok (.iconst (-1), 1) := by decide +kernel
theorem dX7_readNumberBehind_30 : decode cX7_readNumberBehind 30 = .ok (.ireturn, 1) := by decide +kernel
theorem dX7_readNumberBehind_31 : decode cX7_readNumberBehind 31 = .ok (.aload_n 0, 1) := by decide +kernel
theorem dX7_readNumberBehind_32 : decode cX7_readNumberBehind 32 = .ok (.getfield 9, 3) := by decide +kernel
theorem dX7_readNumberBehind_35 : decode cX7_readNumberBehind 35 = .ok (.getfield 118, 3) := by decide +kernel
theorem dX7_readNumberBehind_38 : decode cX7_readNumberBehind 38 = .ok (.istore_n 2, 1) := by decide +kernel
theorem dX7_readNumberBehind_39 : decode cX7_readNumberBehind 39 = .ok (.aload_n 0, 1) := by decide +kernel
theorem dX7_readNumberBehind_40 : decode cX7_readNumberBehind 40 = .ok (.getfield 9, 3) := by decide +kernel
theorem dX7_readNumberBehind_43 : decode cX7_readNumberBehind 43 = .ok (.invokevirtual 32, 3) := by decide +kernel
theorem dX7_readNumberBehind_46 : decode cX7_readNumberBehind 46 = .ok (.iload_n 2, 1) := by decide +kernel
theorem dX7_readNumberBehind_47 : decode cX7_readNumberBehind 47 = .ok (.ireturn, 1) := by decide +kernel
theorem dX7_kindTold_0 : decode cX7_kindTold 0 = .ok (.aload_n 0, 1) := by decide +kernel
theorem dX7_kindTold_1 : decode cX7_kindTold 1 = .ok (.getfield 9, 3) := by decide +kernel
theorem dX7_kindTold_4 : decode cX7_kindTold 4 = .ok (.ldc 121, 2) := by decide +kernel
theorem dX7_kindTold_6 : decode cX7_kindTold 6 = .ok (.invokevirtual 40, 3) := by decide +kernel
theorem dX7_kindTold_9 : decode cX7_kindTold 9 = .ok (.ifCond .eq 5, 3) := by decide +kernel
theorem dX7_kindTold_12 : decode cX7_kindTold 12 = .ok (.iconst 0, 1) := by decide +kernel
theorem dX7_kindTold_13 : decode cX7_kindTold 13 = .ok (.ireturn, 1) := by decide +kernel
theorem dX7_kindTold_14 : decode cX7_kindTold 14 = .ok (.aload_n 0, 1) := by decide +kernel
theorem dX7_kindTold_15 : decode cX7_kindTold 15 = .ok (.getfield 9, 3) := by decide +kernel
theorem dX7_kindTold_18 : decode cX7_kindTold 18 = .ok (.ldc 123, 2) := by decide +kernel
theorem dX7_kindTold_20 : decode cX7_kindTold 20 = .ok (.invokevirtual 40, 3) := by decide +kernel
theorem dX7_kindTold_23 : decode cX7_kindTold 23 = .ok (.ifCond .eq 5, 3) := by decide +kernel
theorem dX7_kindTold_26 : decode cX7_kindTold 26 = .ok (.iconst 1, 1) := by decide +kernel
theorem dX7_kindTold_27 : decode cX7_kindTold 27 = .ok (.ireturn, 1) := by decide +kernel
theorem dX7_kindTold_28 : decode cX7_kindTold 28 = .ok (.aload_n 0, 1) := by decide +kernel
theorem dX7_kindTold_29 : decode cX7_kindTold 29 = .ok (.getfield 9, 3) := by decide +kernel
theorem dX7_kindTold_32 : decode cX7_kindTold 32 = .ok (.ldc 125, 2) := by decide +kernel
theorem dX7_kindTold_34 : decode cX7_kindTold 34 = .ok (.invokevirtual 40, 3) := by decide +kernel
theorem dX7_kindTold_37 : decode cX7_kindTold 37 = .ok (.ifCond .eq 5, 3) := by decide +kernel
theorem dX7_kindTold_40 : decode cX7_kindTold 40 = .ok (.iconst 2, 1) := by decide +kernel
theorem dX7_kindTold_41 : decode cX7_kindTold 41 = .ok (.ireturn, 1) := by decide +kernel
theorem dX7_kindTold_42 : decode cX7_kindTold 42 = .ok (.aload_n 0, 1) := by decide +kernel
theorem dX7_kindTold_43 : decode cX7_kindTold 43 = .ok (.getfield 9, 3) := by decide +kernel
theorem dX7_kindTold_46 : decode cX7_kindTold 46 = .ok (.ldc 127, 2) := by decide +kernel
theorem dX7_kindTold_48 : decode cX7_kindTold 48 = .ok (.invokevirtual 40, 3) := by decide +kernel
theorem dX7_kindTold_51 : decode cX7_kindTold 51 = .ok (.ifCond .eq 5, 3) := by decide +kernel
theorem dX7_kindTold_54 : decode cX7_kindTold 54 = .ok (.iconst 3, 1) := by decide +kernel
theorem dX7_kindTold_55 : decode cX7_kindTold 55 = .ok (.ireturn, 1) := by decide +kernel
theorem dX7_kindTold_56 : decode cX7_kindTold 56 = .ok (.aload_n 0, 1) := by decide +kernel
theorem dX7_kindTold_57 : decode cX7_kindTold 57 = .ok (.getfield 9, 3) := by decide +kernel
theorem dX7_kindTold_60 : decode cX7_kindTold 60 = .ok (.ldc 129, 2) := by decide +kernel
theorem dX7_kindTold_62 : decode cX7_kindTold 62 = .ok (.invokevirtual 40, 3) := by decide +kernel
theorem dX7_kindTold_65 : decode cX7_kindTold 65 = .ok (.ifCond .eq 5, 3) := by decide +kernel
theorem dX7_kindTold_68 : decode cX7_kindTold 68 = .ok (.iconst 4, 1) := by decide +kernel
theorem dX7_kindTold_69 : decode cX7_kindTold 69 = .ok (.ireturn, 1) := by decide +kernel
theorem dX7_kindTold_70 : decode cX7_kindTold 70 = .ok (.aload_n 0, 1) := by decide +kernel
theorem dX7_kindTold_71 : decode cX7_kindTold 71 = .ok (.getfield 9, 3) := by decide +kernel
theorem dX7_kindTold_74 : decode cX7_kindTold 74 = .ok (.ldc 131, 2) := by decide +kernel
theorem dX7_kindTold_76 : decode cX7_kindTold 76 = .ok (.invokevirtual 40, 3) := by decide +kernel
theorem dX7_kindTold_79 : decode cX7_kindTold 79 = .ok (.ifCond .eq 5, 3) := by decide +kernel
theorem dX7_kindTold_82 : decode cX7_kindTold 82 = .ok (.iconst 5, 1) := by decide +kernel
theorem dX7_kindTold_83 : decode cX7_kindTold 83 = .ok (.ireturn, 1) := by decide +kernel
theorem dX7_kindTold_84 : decode cX7_kindTold 84 = .ok (.aload_n 0, 1) := by decide +kernel
theorem dX7_kindTold_85 : decode cX7_kindTold 85 = .ok (.getfield 9, 3) := by decide +kernel
theorem dX7_kindTold_88 : decode cX7_kindTold 88 = .ok (.ldc 133, 2) := by decide +kernel
theorem dX7_kindTold_90 : decode cX7_kindTold 90 = .ok (.invokevirtual 40, 3) := by decide +kernel
theorem dX7_kindTold_93 : decode cX7_kindTold 93 = .ok (.ifCond .eq 8, 3) := by decide +kernel
theorem dX7_kindTold_96 : decode cX7_kindTold 96 = .ok (.bipush 6, 2) := by decide +kernel
theorem dX7_kindTold_98 : decode cX7_kindTold 98 = .ok (.goto 4, 3) := by decide +kernel
theorem dX7_kindTold_101 : decode cX7_kindTold 101 = .ok (.iconst (-1), 1) := by decide +kernel
theorem dX7_kindTold_102 : decode cX7_kindTold 102 = .ok (.ireturn, 1) := by decide +kernel
theorem dX7_placeTold_0 : decode cX7_placeTold 0 = .ok (.aload_n 0, 1) := by decide +kernel
theorem dX7_placeTold_1 : decode cX7_placeTold 1 = .ok (.getfield 9, 3) := by decide +kernel
theorem dX7_placeTold_4 : decode cX7_placeTold 4 = .ok (.ldc 135, 2) := by decide +kernel
theorem dX7_placeTold_6 : decode cX7_placeTold 6 = .ok (.invokevirtual 40, 3) := by decide +kernel
theorem dX7_placeTold_9 : decode cX7_placeTold 9 = .ok (.ifCond .eq 5, 3) := by decide +kernel
theorem dX7_placeTold_12 : decode cX7_placeTold 12 = .ok (.iconst 1, 1) := by decide +kernel
theorem dX7_placeTold_13 : decode cX7_placeTold 13 = .ok (.ireturn, 1) := by decide +kernel
theorem dX7_placeTold_14 : decode cX7_placeTold 14 = .ok (.aload_n 0, 1) := by decide +kernel
theorem dX7_placeTold_15 : decode cX7_placeTold 15 = .ok (.getfield 9, 3) := by decide +kernel
theorem dX7_placeTold_18 : decode cX7_placeTold 18 = .ok (.ldc 137, 2) := by decide +kernel
theorem dX7_placeTold_20 : decode cX7_placeTold 20 = .ok (.invokevirtual 40, 3) := by decide +kernel
theorem dX7_placeTold_23 : decode cX7_placeTold 23 = .ok (.ifCond .eq 5, 3) := by decide +kernel
theorem dX7_placeTold_26 : decode cX7_placeTold 26 = .ok (.iconst 2, 1) := by decide +kernel
theorem dX7_placeTold_27 : decode cX7_placeTold 27 = .ok (.ireturn, 1) := by decide +kernel
theorem dX7_placeTold_28 : decode cX7_placeTold 28 = .ok (.aload_n 0, 1) := by decide +kernel
theorem dX7_placeTold_29 : decode cX7_placeTold 29 = .ok (.getfield 9, 3) := by decide +kernel
theorem dX7_placeTold_32 : decode cX7_placeTold 32 = .ok (.ldc 139, 2) := by decide +kernel
theorem dX7_placeTold_34 : decode cX7_placeTold 34 = .ok (.invokevirtual 40, 3) := by decide +kernel
theorem dX7_placeTold_37 : decode cX7_placeTold 37 = .ok (.ifCond .eq 7, 3) := by decide +kernel
theorem dX7_placeTold_40 : decode cX7_placeTold 40 = .ok (.iconst 3, 1) := by decide +kernel
theorem dX7_placeTold_41 : decode cX7_placeTold 41 = .ok (.goto 4, 3) := by decide +kernel
theorem dX7_placeTold_44 : decode cX7_placeTold 44 = .ok (.iconst 0, 1) := by decide +kernel
theorem dX7_placeTold_45 : decode cX7_placeTold 45 = .ok (.ireturn, 1) := by decide +kernel
theorem dX8_init_0 : decode cX8_init 0 = .ok (.aload_n 0, 1) := by decide +kernel
theorem dX8_init_1 : decode cX8_init 1 = .ok (.invokespecial 1, 3) := by decide +kernel
theorem dX8_init_4 : decode cX8_init 4 = .ok (.aload_n 0, 1) := by decide +kernel
theorem dX8_init_5 : decode cX8_init 5 = .ok (.new 7, 3) := by decide +kernel
theorem dX8_init_8 : decode cX8_init 8 = .ok (.dup, 1) := by decide +kernel
theorem dX8_init_9 : decode cX8_init 9 = .ok (.invokespecial 9, 3) := by decide +kernel
theorem dX8_init_12 : decode cX8_init 12 = .ok (.putfield 10, 3) := by decide +kernel
theorem dX8_init_15 : decode cX8_init 15 = .ok (.aload_n 0, 1) := by decide +kernel
theorem dX8_init_16 : decode cX8_init 16 = .ok (.new 7, 3) := by decide +kernel
theorem dX8_init_19 : decode cX8_init 19 = .ok (.dup, 1) := by decide +kernel
theorem dX8_init_20 : decode cX8_init 20 = .ok (.invokespecial 9, 3) := by decide +kernel
theorem dX8_init_23 : decode cX8_init 23 = .ok (.putfield 16, 3) := by decide +kernel
theorem dX8_init_26 : decode cX8_init 26 = .ok (.aload_n 0, 1) := by decide +kernel
theorem dX8_init_27 : decode cX8_init 27 = .ok (.new 7, 3) := by decide +kernel
theorem dX8_init_30 : decode cX8_init 30 = .ok (.dup, 1) := by decide +kernel
theorem dX8_init_31 : decode cX8_init 31 = .ok (.invokespecial 9, 3) := by decide +kernel
theorem dX8_init_34 : decode cX8_init 34 = .ok (.putfield 19, 3) := by decide +kernel
theorem dX8_init_37 : decode cX8_init 37 = .ok (.aload_n 0, 1) := by decide +kernel
theorem dX8_init_38 : decode cX8_init 38 = .ok (.new 7, 3) := by decide +kernel
theorem dX8_init_41 : decode cX8_init 41 = .ok (.dup, 1) := by decide +kernel
theorem dX8_init_42 : decode cX8_init 42 = .ok (.invokespecial 9, 3) := by decide +kernel
theorem dX8_init_45 : decode cX8_init 45 = .ok (.putfield 22, 3) := by decide +kernel
theorem dX8_init_48 : decode cX8_init 48 = .ok (.aload_n 0, 1) := by decide +kernel
theorem dX8_init_49 : decode cX8_init 49 = .ok (.new 25, 3) := by decide +kernel
theorem dX8_init_52 : decode cX8_init 52 = .ok (.dup, 1) := by decide +kernel
theorem dX8_init_53 : decode cX8_init 53 = .ok (.invokespecial 27, 3) := by decide +kernel
theorem dX8_init_56 : decode cX8_init 56 = .ok (.putfield 28, 3) := by decide +kernel
theorem dX8_init_59 : decode cX8_init 59 = .ok (.aload_n 0, 1) := by decide +kernel
theorem dX8_init_60 : decode cX8_init 60 = .ok (.new 32, 3) := by decide +kernel
theorem dX8_init_63 : decode cX8_init 63 = .ok (.dup, 1) := by decide +kernel
theorem dX8_init_64 : decode cX8_init 64 = .ok (.invokespecial 34, 3) := by decide +kernel
theorem dX8_init_67 : decode cX8_init 67 = .ok (.putfield 35, 3) := by decide +kernel
theorem dX8_init_70 : decode cX8_init 70 = .ok (.aload_n 0, 1) := by decide +kernel
theorem dX8_init_71 : decode cX8_init 71 = .ok (.new 39, 3) := by decide +kernel
theorem dX8_init_74 : decode cX8_init 74 = .ok (.dup, 1) := by decide +kernel
theorem dX8_init_75 : decode cX8_init 75 = .ok (.aload_n 0, 1) := by decide +kernel
theorem dX8_init_76 : decode cX8_init 76 = .ok (.getfield 35, 3) := by decide +kernel
theorem dX8_init_79 : decode cX8_init 79 = .ok (.aload_n 0, 1) := by decide +kernel
theorem dX8_init_80 : decode cX8_init 80 = .ok (.getfield 19, 3) := by decide +kernel
theorem dX8_init_83 : decode cX8_init 83 = .ok (.invokespecial 41, 3) := by decide +kernel
theorem dX8_init_86 : decode cX8_init 86 = .ok (.putfield 44, 3) := by decide +kernel
theorem dX8_init_89 : decode cX8_init 89 = .ok (.aload_n 0, 1) := by decide +kernel
theorem dX8_init_90 : decode cX8_init 90 = .ok (.new 48, 3) := by decide +kernel
theorem dX8_init_93 : decode cX8_init 93 = .ok (.dup, 1) := by decide +kernel
theorem dX8_init_94 : decode cX8_init 94 = .ok (.invokespecial 50, 3) := by decide +kernel
theorem dX8_init_97 : decode cX8_init 97 = .ok (.putfield 51, 3) := by decide +kernel
theorem dX8_init_100 : decode cX8_init 100 = .ok (.aload_n 0, 1) := by decide +kernel
theorem dX8_init_101 : decode cX8_init 101 = .ok (.bipush 7, 2) := by decide +kernel
theorem dX8_init_103 : decode cX8_init 103 = .ok (.newarray .int, 2) := by decide +kernel
theorem dX8_init_105 : decode cX8_init 105 = .ok (.putfield 55, 3) := by decide +kernel
theorem dX8_init_108 : decode cX8_init 108 = .ok (.aload_n 0, 1) := by decide +kernel
theorem dX8_init_109 : decode cX8_init 109 = .ok (.iconst 0, 1) := by decide +kernel
theorem dX8_init_110 : decode cX8_init 110 = .ok (.putfield 59, 3) := by decide +kernel
theorem dX8_init_113 : decode cX8_init 113 = .ok (.return_, 1) := by decide +kernel
theorem dX8_batch_0 : decode cX8_batch 0 = .ok (.iload_n 1, 1) := by decide +kernel
theorem dX8_batch_1 : decode cX8_batch 1 = .ok (.iconst 0, 1) := by decide +kernel
theorem dX8_batch_2 : decode cX8_batch 2 = .ok (.bipush 6, 2) := by decide +kernel
theorem dX8_batch_4 : decode cX8_batch 4 = .ok (.invokestatic 63, 3) := by decide +kernel
theorem dX8_batch_7 : decode cX8_batch 7 = .ok (.ifCond .ne 9, 3) := by decide +kernel
theorem dX8_batch_10 : decode cX8_batch 10 = .ok (.aload_n 0, 1) := by decide +kernel
theorem dX8_batch_11 : decode cX8_batch 11 = .ok (.iconst 0, 1) := by decide +kernel
theorem dX8_batch_12 : decode cX8_batch 12 = .ok (.invokevirtual 67, 3) := by decide +kernel
theorem dX8_batch_15 : decode cX8_batch 15 = .ok (.ireturn, 1) := by decide +kernel
theorem dX8_batch_16 : decode cX8_batch 16 = .ok (.aload_n 0, 1) := by decide +kernel
theorem dX8_batch_17 : decode cX8_batch 17 = .ok (.getfield 10, 3) := by decide +kernel
theorem dX8_batch_20 : decode cX8_batch 20 = .ok (.getfield 71, 3) := by decide +kernel
theorem dX8_batch_23 : decode cX8_batch 23 = .ok (.invokevirtual 75, 3) := by decide +kernel
theorem dX8_batch_26 : decode cX8_batch 26 = .ok (.ifCond .eq 9, 3) := by decide +kernel
theorem dX8_batch_29 : decode cX8_batch 29 = .ok (.aload_n 0, 1) := by decide +kernel
theorem dX8_batch_30 : decode cX8_batch 30 = .ok (.iconst 1, 1) := by decide +kernel
theorem dX8_batch_31 : decode cX8_batch 31 = .ok (.invokevirtual 67, 3) := by decide +kernel
theorem dX8_batch_34 : decode cX8_batch 34 = .ok (.ireturn, 1) := by decide +kernel
theorem dX8_batch_35 : decode cX8_batch 35 = .ok (.aload_n 0, 1) := by decide +kernel
theorem dX8_batch_36 : decode cX8_batch 36 = .ok (.getfield 10, 3) := by decide +kernel
theorem dX8_batch_39 : decode cX8_batch 39 = .ok (.getfield 71, 3) := by decide +kernel
theorem dX8_batch_42 : decode cX8_batch 42 = .ok (.iload_n 1, 1) := by decide +kernel
theorem dX8_batch_43 : decode cX8_batch 43 = .ok (.invokevirtual 81, 3) := by decide +kernel
theorem dX8_batch_46 : decode cX8_batch 46 = .ok (.ireturn, 1) := by decide +kernel
theorem dX8_of_0 : decode cX8_of 0 = .ok (.aload_n 0, 1) := by decide +kernel
theorem dX8_of_1 : decode cX8_of 1 = .ok (.iload_n 1, 1) := by decide +kernel
theorem dX8_of_2 : decode cX8_of 2 = .ok (.invokevirtual 84, 3) := by decide +kernel
theorem dX8_of_5 : decode cX8_of 5 = .ok (.ifCond .ne 9, 3) := by decide +kernel
theorem dX8_of_8 : decode cX8_of 8 = .ok (.aload_n 0, 1) := by decide +kernel
theorem dX8_of_9 : decode cX8_of 9 = .ok (.iconst 0, 1) := by decide +kernel
theorem dX8_of_10 : decode cX8_of 10 = .ok (.invokevirtual 67, 3) := by decide +kernel
theorem dX8_of_13 : decode cX8_of 13 = .ok (.ireturn, 1) := by decide +kernel
theorem dX8_of_14 : decode cX8_of 14 = .ok (.aload_n 0, 1) := by decide +kernel
theorem dX8_of_15 : decode cX8_of 15 = .ok (.getfield 10, 3) := by decide +kernel
theorem dX8_of_18 : decode cX8_of 18 = .ok (.getfield 71, 3) := by decide +kernel
theorem dX8_of_21 : decode cX8_of 21 = .ok (.getfield 88, 3) := by decide +kernel
theorem dX8_of_24 : decode cX8_of 24 = .ok (.iload_n 1, 1) := by decide +kernel
theorem dX8_of_25 : decode cX8_of 25 = .ok (.iaload, 1) := by decide +kernel
theorem dX8_of_26 : decode cX8_of 26 = .ok (.istore_n 3, 1) := by decide +kernel
theorem dX8_of_27 : decode cX8_of 27 = .ok (.iload_n 2, 1) := by decide +kernel
theorem dX8_of_28 : decode cX8_of 28 = .ok (.tableswitch 124 0 7 #[48, 50, 63, 76, 89, 102, 107, 112], 48) := by decide +kernel
theorem dX8_of_76 : decode cX8_of 76 = .ok (.iload_n 3, 1) := by decide +kernel
theorem dX8_of_77 : decode cX8_of 77 = .ok (.ireturn, 1) := by decide +kernel
theorem dX8_of_78 : decode cX8_of 78 = .ok (.aload_n 0, 1) := by decide +kernel
theorem dX8_of_79 : decode cX8_of 79 = .ok (.getfield 10, 3) := by decide +kernel
theorem dX8_of_82 : decode cX8_of 82 = .ok (.getfield 71, 3) := by decide +kernel
theorem dX8_of_85 : decode cX8_of 85 = .ok (.getfield 91, 3) := by decide +kernel
theorem dX8_of_88 : decode cX8_of 88 = .ok (.iload_n 1, 1) := by decide +kernel
theorem dX8_of_89 : decode cX8_of 89 = .ok (.iaload, 1) := by decide +kernel
theorem dX8_of_90 : decode cX8_of 90 = .ok (.ireturn, 1) := by decide +kernel
theorem dX8_of_91 : decode cX8_of 91 = .ok (.aload_n 0, 1) := by decide +kernel
theorem dX8_of_92 : decode cX8_of 92 = .ok (.getfield 10, 3) := by decide +kernel
theorem dX8_of_95 : decode cX8_of 95 = .ok (.getfield 71, 3) := by decide +kernel
theorem dX8_of_98 : decode cX8_of 98 = .ok (.getfield 94, 3) := by decide +kernel
theorem dX8_of_101 : decode cX8_of 101 = .ok (.iload_n 1, 1) := by decide +kernel
theorem dX8_of_102 : decode cX8_of 102 = .ok (.iaload, 1) := by decide +kernel
theorem dX8_of_103 : decode cX8_of 103 = .ok (.ireturn, 1) := by decide +kernel
theorem dX8_of_104 : decode cX8_of 104 = .ok (.aload_n 0, 1) := by decide +kernel
theorem dX8_of_105 : decode cX8_of 105 = .ok (.getfield 10, 3) := by decide +kernel
theorem dX8_of_108 : decode cX8_of 108 = .ok (.getfield 71, 3) := by decide +kernel
theorem dX8_of_111 : decode cX8_of 111 = .ok (.getfield 97, 3) := by decide +kernel
theorem dX8_of_114 : decode cX8_of 114 = .ok (.iload_n 1, 1) := by decide +kernel
theorem dX8_of_115 : decode cX8_of 115 = .ok (.iaload, 1) := by decide +kernel
theorem dX8_of_116 : decode cX8_of 116 = .ok (.ireturn, 1) := by decide +kernel
theorem dX8_of_117 : decode cX8_of 117 = .ok (.aload_n 0, 1) := by decide +kernel
theorem dX8_of_118 : decode cX8_of 118 = .ok (.getfield 10, 3) := by decide +kernel
theorem dX8_of_121 : decode cX8_of 121 = .ok (.getfield 71, 3) := by decide +kernel
theorem dX8_of_124 : decode cX8_of 124 = .ok (.getfield 100, 3) := by decide +kernel
theorem dX8_of_127 : decode cX8_of 127 = .ok (.iload_n 1, 1) := by decide +kernel
theorem dX8_of_128 : decode cX8_of 128 = .ok (.iaload, 1) := by decide +kernel
theorem dX8_of_129 : decode cX8_of 129 = .ok (.ireturn, 1) := by decide +kernel
theorem dX8_of_130 : decode cX8_of 130 = .ok (.iload_n 3, 1) := by decide +kernel
theorem dX8_of_131 : decode cX8_of 131 = .ok (.invokestatic 103, 3) := by decide +kernel
theorem dX8_of_134 : decode cX8_of 134 = .ok (.ireturn, 1) := by decide +kernel
theorem dX8_of_135 : decode cX8_of 135 = .ok (.iload_n 3, 1) := by decide +kernel
theorem dX8_of_136 : decode cX8_of 136 = .ok (.invokestatic 108, 3) := by decide +kernel
theorem dX8_of_139 : decode cX8_of 139 = .ok (.ireturn, 1) := by decide +kernel
theorem dX8_of_140 : decode cX8_of 140 = .ok (.iload_n 3, 1) := by decide +kernel
theorem dX8_of_141 : decode cX8_of 141 = .ok (.aload_n 0, 1) := by decide +kernel
theorem dX8_of_142 : decode cX8_of 142 = .ok (.getfield 10, 3) := by decide +kernel
theorem dX8_of_145 : decode cX8_of 145 = .ok (.getfield 111, 3) := by decide +kernel
theorem dX8_of_148 : decode cX8_of 148 = .ok (.invokestatic 115, 3) := by decide +kernel
theorem dX8_of_151 : decode cX8_of 151 = .ok (.ireturn, 1) := by decide +kernel
theorem dX8_of_152 : decode cX8_of 152 = .ok (.aload_n 0, 1) := by decide +kernel
theorem dX8_of_153 : decode cX8_of 153 = .ok (.iconst 0, 1) := by decide +kernel
theorem dX8_of_154 : decode cX8_of 154 = .ok (.invokevirtual 67, 3) := by decide +kernel
theorem dX8_of_157 : decode cX8_of 157 = .ok (.ireturn, 1) := by decide +kernel
theorem dX8_change_0 : decode cX8_change 0 = .ok (.aload_n 0, 1) := by decide +kernel
theorem dX8_change_1 : decode cX8_change 1 = .ok (.iload_n 1, 1) := by decide +kernel
theorem dX8_change_2 : decode cX8_change 2 = .ok (.invokevirtual 84, 3) := by decide +kernel
theorem dX8_change_5 : decode cX8_change 5 = .ok (.ifCond .ne 9, 3) := by decide +kernel
theorem dX8_change_8 : decode cX8_change 8 = .ok (.aload_n 0, 1) := by decide +kernel
theorem dX8_change_9 : decode cX8_change 9 = .ok (.iconst 0, 1) := by decide +kernel
theorem dX8_change_10 : decode cX8_change 10 = .ok (.invokevirtual 67, 3) := by decide +kernel
theorem dX8_change_13 : decode cX8_change 13 = .ok (.ireturn, 1) := by decide +kernel
theorem dX8_change_14 : decode cX8_change 14 = .ok (.iload_n 2, 1) := by decide +kernel
theorem dX8_change_15 : decode cX8_change 15 = .ok (.tableswitch 107 0 3 #[29, 48, 67, 87], 29) := by decide +kernel
theorem dX8_change_44 : decode cX8_change 44 = .ok (.aload_n 0, 1) := by decide +kernel
theorem dX8_change_45 : decode cX8_change 45 = .ok (.aload_n 0, 1) := by decide +kernel
theorem dX8_change_46 : decode cX8_change 46 = .ok (.getfield 10, 3) := by decide +kernel
theorem dX8_change_49 : decode cX8_change 49 = .ok (.getfield 71, 3) := by decide +kernel
theorem dX8_change_52 : decode cX8_change 52 = .ok (.getfield 88, 3) := by decide +kernel
theorem dX8_change_55 : decode cX8_change 55 = .ok (.iload_n 1, 1) := by decide +kernel
theorem dX8_change_56 : decode cX8_change 56 = .ok (.iload_n 3, 1) := by decide +kernel
theorem dX8_change_57 : decode cX8_change 57 = .ok (.bipush 6, 2) := by decide +kernel
theorem dX8_change_59 : decode cX8_change 59 = .ok (.invokevirtual 119, 3) := by decide +kernel
theorem dX8_change_62 : decode cX8_change 62 = .ok (.ireturn, 1) := by decide +kernel
theorem dX8_change_63 : decode cX8_change 63 = .ok (.aload_n 0, 1) := by decide +kernel
theorem dX8_change_64 : decode cX8_change 64 = .ok (.aload_n 0, 1) := by decide +kernel
theorem dX8_change_65 : decode cX8_change 65 = .ok (.getfield 10, 3) := by decide +kernel
theorem dX8_change_68 : decode cX8_change 68 = .ok (.getfield 71, 3) := by decide +kernel
theorem dX8_change_71 : decode cX8_change 71 = .ok (.getfield 91, 3) := by decide +kernel
theorem dX8_change_74 : decode cX8_change 74 = .ok (.iload_n 1, 1) := by decide +kernel
theorem dX8_change_75 : decode cX8_change 75 = .ok (.iload_n 3, 1) := by decide +kernel
theorem dX8_change_76 : decode cX8_change 76 = .ok (.bipush 9, 2) := by decide +kernel
theorem dX8_change_78 : decode cX8_change 78 = .ok (.invokevirtual 119, 3) := by decide +kernel
theorem dX8_change_81 : decode cX8_change 81 = .ok (.ireturn, 1) := by decide +kernel
theorem dX8_change_82 : decode cX8_change 82 = .ok (.aload_n 0, 1) := by decide +kernel
theorem dX8_change_83 : decode cX8_change 83 = .ok (.aload_n 0, 1) := by decide +kernel
theorem dX8_change_84 : decode cX8_change 84 = .ok (.getfield 10, 3) := by decide +kernel
theorem dX8_change_87 : decode cX8_change 87 = .ok (.getfield 71, 3) := by decide +kernel
theorem dX8_change_90 : decode cX8_change 90 = .ok (.getfield 94, 3) := by decide +kernel
theorem dX8_change_93 : decode cX8_change 93 = .ok (.iload_n 1, 1) := by decide +kernel
theorem dX8_change_94 : decode cX8_change 94 = .ok (.iload_n 3, 1) := by decide +kernel
theorem dX8_change_95 : decode cX8_change 95 = .ok (.sipush 999, 3) := by decide +kernel
theorem dX8_change_98 : decode cX8_change 98 = .ok (.invokevirtual 119, 3) := by decide +kernel
theorem dX8_change_101 : decode cX8_change 101 = .ok (.ireturn, 1) := by decide +kernel
theorem dX8_change_102 : decode cX8_change 102 = .ok (.aload_n 0, 1) := by decide +kernel
theorem dX8_change_103 : decode cX8_change 103 = .ok (.aload_n 0, 1) := by decide +kernel
theorem dX8_change_104 : decode cX8_change 104 = .ok (.getfield 10, 3) := by decide +kernel
theorem dX8_change_107 : decode cX8_change 107 = .ok (.getfield 71, 3) := by decide +kernel
theorem dX8_change_110 : decode cX8_change 110 = .ok (.getfield 97, 3) := by decide +kernel
theorem dX8_change_113 : decode cX8_change 113 = .ok (.iload_n 1, 1) := by decide +kernel
theorem dX8_change_114 : decode cX8_change 114 = .ok (.iload_n 3, 1) := by decide +kernel
theorem dX8_change_115 : decode cX8_change 115 = .ok (.sipush 999, 3) := by decide +kernel
theorem dX8_change_118 : decode cX8_change 118 = .ok (.invokevirtual 119, 3) := by decide +kernel
theorem dX8_change_121 : decode cX8_change 121 = .ok (.ireturn, 1) := by decide +kernel
theorem dX8_change_122 : decode cX8_change 122 = .ok (.aload_n 0, 1) := by decide +kernel
theorem dX8_change_123 : decode cX8_change 123 = .ok (.iconst 0, 1) := by decide +kernel
theorem dX8_change_124 : decode cX8_change 124 = .ok (.invokevirtual 67, 3) := by decide +kernel
theorem dX8_change_127 : decode cX8_change 127 = .ok (.ireturn, 1) := by decide +kernel
theorem dX8_put_0 : decode cX8_put 0 = .ok (.aload_n 0, 1) := by decide +kernel
theorem dX8_put_1 : decode cX8_put 1 = .ok (.iload_n 1, 1) := by decide +kernel
theorem dX8_put_2 : decode cX8_put 2 = .ok (.invokevirtual 84, 3) := by decide +kernel
theorem dX8_put_5 : decode cX8_put 5 = .ok (.ifCond .eq 12, 3) := by decide +kernel
theorem dX8_put_8 : decode cX8_put 8 = .ok (.iload_n 2, 1) := by decide +kernel
theorem dX8_put_9 : decode cX8_put 9 = .ok (.iconst 1, 1) := by decide +kernel
theorem dX8_put_10 : decode cX8_put 10 = .ok (.iconst 4, 1) := by decide +kernel
theorem dX8_put_11 : decode cX8_put 11 = .ok (.invokestatic 63, 3) := by decide +kernel
theorem dX8_put_14 : decode cX8_put 14 = .ok (.ifCond .ne 9, 3) := by decide +kernel
theorem dX8_put_17 : decode cX8_put 17 = .ok (.aload_n 0, 1) := by decide +kernel
theorem dX8_put_18 : decode cX8_put 18 = .ok (.iconst 0, 1) := by decide +kernel
theorem dX8_put_19 : decode cX8_put 19 = .ok (.invokevirtual 67, 3) := by decide +kernel
theorem dX8_put_22 : decode cX8_put 22 = .ok (.ireturn, 1) := by decide +kernel
theorem dX8_put_23 : decode cX8_put 23 = .ok (.aload_n 0, 1) := by decide +kernel
theorem dX8_put_24 : decode cX8_put 24 = .ok (.getfield 10, 3) := by decide +kernel
theorem dX8_put_27 : decode cX8_put 27 = .ok (.getfield 71, 3) := by decide +kernel
theorem dX8_put_30 : decode cX8_put 30 = .ok (.getfield 100, 3) := by decide +kernel
theorem dX8_put_33 : decode cX8_put 33 = .ok (.iload_n 1, 1) := by decide +kernel
theorem dX8_put_34 : decode cX8_put 34 = .ok (.iaload, 1) := by decide +kernel
theorem dX8_put_35 : decode cX8_put 35 = .ok (.istore_n 3, 1) := by decide +kernel
theorem dX8_put_36 : decode cX8_put 36 = .ok (.iload_n 3, 1) := by decide +kernel
theorem dX8_put_37 : decode cX8_put 37 = .ok (.iconst 4, 1) := by decide +kernel
theorem dX8_put_38 : decode cX8_put 38 = .ok (.if_icmp .eq 8, 3) := by decide +kernel
theorem dX8_put_41 : decode cX8_put 41 = .ok (.iload_n 3, 1) := by decide +kernel
theorem dX8_put_42 : decode cX8_put 42 = .ok (.iload_n 2, 1) := by decide +kernel
theorem dX8_put_43 : decode cX8_put 43 = .ok (.if_icmp .ne 9, 3) := by decide +kernel
theorem dX8_put_46 : decode cX8_put 46 = .ok (.aload_n 0, 1) := by decide +kernel
theorem dX8_put_47 : decode cX8_put 47 = .ok (.iconst 4, 1) := by decide +kernel
theorem dX8_put_48 : decode cX8_put 48 = .ok (.invokevirtual 67, 3) := by decide +kernel
theorem dX8_put_51 : decode cX8_put 51 = .ok (.ireturn, 1) := by decide +kernel
theorem dX8_put_52 : decode cX8_put 52 = .ok (.aload_n 0, 1) := by decide +kernel
theorem dX8_put_53 : decode cX8_put 53 = .ok (.getfield 10, 3) := by decide +kernel
theorem dX8_put_56 : decode cX8_put 56 = .ok (.getfield 71, 3) := by decide +kernel
theorem dX8_put_59 : decode cX8_put 59 = .ok (.iload_n 2, 1) := by decide +kernel
theorem dX8_put_60 : decode cX8_put 60 = .ok (.invokevirtual 123, 3) := by decide +kernel
theorem dX8_put_63 : decode cX8_put 63 = .ok (.ifCond .ne 9, 3) := by decide +kernel
theorem dX8_put_66 : decode cX8_put 66 = .ok (.aload_n 0, 1) := by decide +kernel
theorem dX8_put_67 : decode cX8_put 67 = .ok (.iconst 1, 1) := by decide +kernel
theorem dX8_put_68 : decode cX8_put 68 = .ok (.invokevirtual 67, 3) := by decide +kernel
theorem dX8_put_71 : decode cX8_put 71 = .ok (.ireturn, 1) := by decide +kernel
theorem dX8_put_72 : decode cX8_put 72 = .ok (.aload_n 0, 1) := by decide +kernel
theorem dX8_put_73 : decode cX8_put 73 = .ok (.getfield 10, 3) := by decide +kernel
theorem dX8_put_76 : decode cX8_put 76 = .ok (.dup, 1) := by decide +kernel
theorem dX8_put_77 : decode cX8_put 77 = .ok (.getfield 126, 3) := by decide +kernel
theorem dX8_put_80 : decode cX8_put 80 = .ok (.aload_n 0, 1) := by decide +kernel
theorem dX8_put_81 : decode cX8_put 81 = .ok (.getfield 10, 3) := by decide +kernel
theorem dX8_put_84 : decode cX8_put 84 = .ok (.getfield 71, 3) := by decide +kernel
theorem dX8_put_87 : decode cX8_put 87 = .ok (.iload_n 1, 1) := by decide +kernel
theorem dX8_put_88 : decode cX8_put 88 = .ok (.iload_n 2, 1) := by decide +kernel
theorem dX8_put_89 : decode cX8_put 89 = .ok (.invokevirtual 129, 3) := by decide +kernel
theorem dX8_put_92 : decode cX8_put 92 = .ok (.iadd, 1) := by decide +kernel
theorem dX8_put_93 : decode cX8_put 93 = .ok (.putfield 126, 3) := by decide +kernel
theorem dX8_put_96 : decode cX8_put 96 = .ok (.iload_n 3, 1) := by decide +kernel
theorem dX8_put_97 : decode cX8_put 97 = .ok (.ireturn, 1) := by decide +kernel
theorem dX8_heats_0 : decode cX8_heats 0 = .ok (.aload_n 0, 1) := by decide +kernel
theorem dX8_heats_1 : decode cX8_heats 1 = .ok (.iload_n 1, 1) := by decide +kernel
theorem dX8_heats_2 : decode cX8_heats 2 = .ok (.invokevirtual 84, 3) := by decide +kernel
theorem dX8_heats_5 : decode cX8_heats 5 = .ok (.ifCond .eq 13, 3) := by decide +kernel
theorem dX8_heats_8 : decode cX8_heats 8 = .ok (.iload_n 2, 1) := by decide +kernel
theorem dX8_heats_9 : decode cX8_heats 9 = .ok (.iconst 0, 1) := by decide +kernel
theorem dX8_heats_10 : decode cX8_heats 10 = .ok (.bipush 20, 2) := by decide +kernel
theorem dX8_heats_12 : decode cX8_heats 12 = .ok (.invokestatic 63, 3) := by decide +kernel
theorem dX8_heats_15 : decode cX8_heats 15 = .ok (.ifCond .ne 9, 3) := by decide +kernel
theorem dX8_heats_18 : decode cX8_heats 18 = .ok (.aload_n 0, 1) := by decide +kernel
theorem dX8_heats_19 : decode cX8_heats 19 = .ok (.iconst 0, 1) := by decide +kernel
theorem dX8_heats_20 : decode cX8_heats 20 = .ok (.invokevirtual 67, 3) := by decide +kernel
theorem dX8_heats_23 : decode cX8_heats 23 = .ok (.ireturn, 1) := by decide +kernel
theorem dX8_heats_24 : decode cX8_heats 24 = .ok (.aload_n 0, 1) := by decide +kernel
theorem dX8_heats_25 : decode cX8_heats 25 = .ok (.getfield 10, 3) := by decide +kernel
theorem dX8_heats_28 : decode cX8_heats 28 = .ok (.getfield 71, 3) := by decide +kernel
theorem dX8_heats_31 : decode cX8_heats 31 = .ok (.getfield 88, 3) := by decide +kernel
theorem dX8_heats_34 : decode cX8_heats 34 = .ok (.iload_n 1, 1) := by decide +kernel
theorem dX8_heats_35 : decode cX8_heats 35 = .ok (.iaload, 1) := by decide +kernel
theorem dX8_heats_36 : decode cX8_heats 36 = .ok (.iload_n 2, 1) := by decide +kernel
theorem dX8_heats_37 : decode cX8_heats 37 = .ok (.invokestatic 132, 3) := by decide +kernel
theorem dX8_heats_40 : decode cX8_heats 40 = .ok (.ireturn, 1) := by decide +kernel
theorem dX8_how_0 : decode cX8_how 0 = .ok (.aload_n 0, 1) := by decide +kernel
theorem dX8_how_1 : decode cX8_how 1 = .ok (.iload_n 1, 1) := by decide +kernel
theorem dX8_how_2 : decode cX8_how 2 = .ok (.invokevirtual 84, 3) := by decide +kernel
theorem dX8_how_5 : decode cX8_how 5 = .ok (.ifCond .ne 9, 3) := by decide +kernel
theorem dX8_how_8 : decode cX8_how 8 = .ok (.aload_n 0, 1) := by decide +kernel
theorem dX8_how_9 : decode cX8_how 9 = .ok (.iconst 0, 1) := by decide +kernel
theorem dX8_how_10 : decode cX8_how 10 = .ok (.invokevirtual 67, 3) := by decide +kernel
theorem dX8_how_13 : decode cX8_how 13 = .ok (.ireturn, 1) := by decide +kernel
theorem dX8_how_14 : decode cX8_how 14 = .ok (.aload_n 0, 1) := by decide +kernel
theorem dX8_how_15 : decode cX8_how 15 = .ok (.getfield 10, 3) := by decide +kernel
theorem dX8_how_18 : decode cX8_how 18 = .ok (.getfield 71, 3) := by decide +kernel
theorem dX8_how_21 : decode cX8_how 21 = .ok (.iload_n 1, 1) := by decide +kernel
theorem dX8_how_22 : decode cX8_how 22 = .ok (.invokevirtual 135, 3) := by decide +kernel
theorem dX8_how_25 : decode cX8_how 25 = .ok (.ifCond .eq 5, 3) := by decide +kernel
theorem dX8_how_28 : decode cX8_how 28 = .ok (.iconst 5, 1) := by decide +kernel
theorem dX8_how_29 : decode cX8_how 29 = .ok (.ireturn, 1) := by decide +kernel
theorem dX8_how_30 : decode cX8_how 30 = .ok (.aload_n 0, 1) := by decide +kernel
theorem dX8_how_31 : decode cX8_how 31 = .ok (.getfield 10, 3) := by decide +kernel
theorem dX8_how_34 : decode cX8_how 34 = .ok (.getfield 71, 3) := by decide +kernel
theorem dX8_how_37 : decode cX8_how 37 = .ok (.iload_n 1, 1) := by decide +kernel
theorem dX8_how_38 : decode cX8_how 38 = .ok (.invokevirtual 138, 3) := by decide +kernel
theorem dX8_how_41 : decode cX8_how 41 = .ok (.ifCond .eq 5, 3) := by decide +kernel
theorem dX8_how_44 : decode cX8_how 44 = .ok (.iconst 4, 1) := by decide +kernel
theorem dX8_how_45 : decode cX8_how 45 = .ok (.ireturn, 1) := by decide +kernel
theorem dX8_how_46 : decode cX8_how 46 = .ok (.aload_n 0, 1) := by decide +kernel
theorem dX8_how_47 : decode cX8_how 47 = .ok (.getfield 10, 3) := by decide +kernel
theorem dX8_how_50 : decode cX8_how 50 = .ok (.getfield 71, 3) := by decide +kernel
theorem dX8_how_53 : decode cX8_how 53 = .ok (.iload_n 1, 1) := by decide +kernel
theorem dX8_how_54 : decode cX8_how 54 = .ok (.invokevirtual 141, 3) := by decide +kernel
theorem dX8_how_57 : decode cX8_how 57 = .ok (.ifCond .ne 5, 3) := by decide +kernel
theorem dX8_how_60 : decode cX8_how 60 = .ok (.iconst 0, 1) := by decide +kernel
theorem dX8_how_61 : decode cX8_how 61 = .ok (.ireturn, 1) := by decide +kernel
theorem dX8_how_62 : decode cX8_how 62 = .ok (.aload_n 0, 1) := by decide +kernel
theorem dX8_how_63 : decode cX8_how 63 = .ok (.getfield 10, 3) := by decide +kernel
theorem dX8_how_66 : decode cX8_how 66 = .ok (.getfield 71, 3) := by decide +kernel
theorem dX8_how_69 : decode cX8_how 69 = .ok (.getfield 97, 3) := by decide +kernel
theorem dX8_how_72 : decode cX8_how 72 = .ok (.iload_n 1, 1) := by decide +kernel
theorem dX8_how_73 : decode cX8_how 73 = .ok (.iaload, 1) := by decide +kernel
theorem dX8_how_74 : decode cX8_how 74 = .ok (.istore_n 2, 1) := by decide +kernel
theorem dX8_how_75 : decode cX8_how 75 = .ok (.iload_n 2, 1) := by decide +kernel
theorem dX8_how_76 : decode cX8_how 76 = .ok (.bipush 10, 2) := by decide +kernel
theorem dX8_how_78 : decode cX8_how 78 = .ok (.if_icmp .gt 5, 3) := by decide +kernel
theorem dX8_how_81 : decode cX8_how 81 = .ok (.iconst 1, 1) := by decide +kernel
theorem dX8_how_82 : decode cX8_how 82 = .ok (.ireturn, 1) := by decide +kernel
theorem dX8_how_83 : decode cX8_how 83 = .ok (.iload_n 2, 1) := by decide +kernel
theorem dX8_how_84 : decode cX8_how 84 = .ok (.bipush 25, 2) := by decide +kernel
theorem dX8_how_86 : decode cX8_how 86 = .ok (.if_icmp .gt 7, 3) := by decide +kernel
theorem dX8_how_89 : decode cX8_how 89 = .ok (.iconst 2, 1) := by decide +kernel
theorem dX8_how_90 : decode cX8_how 90 = .ok (.goto 4, 3) := by decide +kernel
theorem dX8_how_93 : decode cX8_how 93 = .ok (.iconst 3, 1) := by decide +kernel
theorem dX8_how_94 : decode cX8_how 94 = .ok (.ireturn, 1) := by decide +kernel
theorem dX8_shovel_0 : decode cX8_shovel 0 = .ok (.iload_n 1, 1) := by decide +kernel
theorem dX8_shovel_1 : decode cX8_shovel 1 = .ok (.iconst 1, 1) := by decide +kernel
theorem dX8_shovel_2 : decode cX8_shovel 2 = .ok (.bipush 9, 2) := by decide +kernel
theorem dX8_shovel_4 : decode cX8_shovel 4 = .ok (.invokestatic 63, 3) := by decide +kernel
theorem dX8_shovel_7 : decode cX8_shovel 7 = .ok (.ifCond .ne 9, 3) := by decide +kernel
theorem dX8_shovel_10 : decode cX8_shovel 10 = .ok (.aload_n 0, 1) := by decide +kernel
theorem dX8_shovel_11 : decode cX8_shovel 11 = .ok (.iconst 0, 1) := by decide +kernel
theorem dX8_shovel_12 : decode cX8_shovel 12 = .ok (.invokevirtual 67, 3) := by decide +kernel
theorem dX8_shovel_15 : decode cX8_shovel 15 = .ok (.ireturn, 1) := by decide +kernel
theorem dX8_shovel_16 : decode cX8_shovel 16 = .ok (.aload_n 0, 1) := by decide +kernel
theorem dX8_shovel_17 : decode cX8_shovel 17 = .ok (.getfield 10, 3) := by decide +kernel
theorem dX8_shovel_20 : decode cX8_shovel 20 = .ok (.iload_n 1, 1) := by decide +kernel
theorem dX8_shovel_21 : decode cX8_shovel 21 = .ok (.invokevirtual 144, 3) := by decide +kernel
theorem dX8_shovel_24 : decode cX8_shovel 24 = .ok (.aload_n 0, 1) := by decide +kernel
theorem dX8_shovel_25 : decode cX8_shovel 25 = .ok (.getfield 10, 3) := by decide +kernel
theorem dX8_shovel_28 : decode cX8_shovel 28 = .ok (.invokevirtual 148, 3) := by decide +kernel
theorem dX8_shovel_31 : decode cX8_shovel 31 = .ok (.ireturn, 1) := by decide +kernel
theorem dX8_rule_0 : decode cX8_rule 0 = .ok (.iload_n 1, 1) := by decide +kernel
theorem dX8_rule_1 : decode cX8_rule 1 = .ok (.iconst 0, 1) := by decide +kernel
theorem dX8_rule_2 : decode cX8_rule 2 = .ok (.iconst 2, 1) := by decide +kernel
theorem dX8_rule_3 : decode cX8_rule 3 = .ok (.invokestatic 63, 3) := by decide +kernel
theorem dX8_rule_6 : decode cX8_rule 6 = .ok (.ifCond .eq 15, 3) := by decide +kernel
theorem dX8_rule_9 : decode cX8_rule 9 = .ok (.iload_n 2, 1) := by decide +kernel
theorem dX8_rule_10 : decode cX8_rule 10 = .ok (.iconst 0, 1) := by decide +kernel
theorem dX8_rule_11 : decode cX8_rule 11 = .ok (.iload_n 1, 1) := by decide +kernel
theorem dX8_rule_12 : decode cX8_rule 12 = .ok (.invokestatic 152, 3) := by decide +kernel
theorem dX8_rule_15 : decode cX8_rule 15 = .ok (.invokestatic 63, 3) := by decide +kernel
theorem dX8_rule_18 : decode cX8_rule 18 = .ok (.ifCond .ne 9, 3) := by decide +kernel
theorem dX8_rule_21 : decode cX8_rule 21 = .ok (.aload_n 0, 1) := by decide +kernel
theorem dX8_rule_22 : decode cX8_rule 22 = .ok (.iconst 0, 1) := by decide +kernel
theorem dX8_rule_23 : decode cX8_rule 23 = .ok (.invokevirtual 67, 3) := by decide +kernel
theorem dX8_rule_26 : decode cX8_rule 26 = .ok (.ireturn, 1) := by decide +kernel
theorem dX8_rule_27 : decode cX8_rule 27 = .ok (.aload_n 0, 1) := by decide +kernel
theorem dX8_rule_28 : decode cX8_rule 28 = .ok (.getfield 10, 3) := by decide +kernel
theorem dX8_rule_31 : decode cX8_rule 31 = .ok (.iload_n 1, 1) := by decide +kernel
theorem dX8_rule_32 : decode cX8_rule 32 = .ok (.invokevirtual 155, 3) := by decide +kernel
theorem dX8_rule_35 : decode cX8_rule 35 = .ok (.istore_n 3, 1) := by decide +kernel
theorem dX8_rule_36 : decode cX8_rule 36 = .ok (.aload_n 0, 1) := by decide +kernel
theorem dX8_rule_37 : decode cX8_rule 37 = .ok (.getfield 10, 3) := by decide +kernel
theorem dX8_rule_40 : decode cX8_rule 40 = .ok (.iload_n 1, 1) := by decide +kernel
theorem dX8_rule_41 : decode cX8_rule 41 = .ok (.iload_n 2, 1) := by decide +kernel
theorem dX8_rule_42 : decode cX8_rule 42 = .ok (.invokevirtual 158, 3) := by decide +kernel
theorem dX8_rule_45 : decode cX8_rule 45 = .ok (.iload_n 3, 1) := by decide +kernel
theorem dX8_rule_46 : decode cX8_rule 46 = .ok (.ireturn, 1) := by decide +kernel
theorem dX8_walk_0 : decode cX8_walk 0 = .ok (.iload_n 1, 1) := by decide +kernel
theorem dX8_walk_1 : decode cX8_walk 1 = .ok (.invokestatic 162, 3) := by decide +kernel
theorem dX8_walk_4 : decode cX8_walk 4 = .ok (.ifCond .ne 9, 3) := by decide +kernel
theorem dX8_walk_7 : decode cX8_walk 7 = .ok (.aload_n 0, 1) := by decide +kernel
theorem dX8_walk_8 : decode cX8_walk 8 = .ok (.iconst 0, 1) := by decide +kernel
theorem dX8_walk_9 : decode cX8_walk 9 = .ok (.invokevirtual 67, 3) := by decide +kernel
theorem dX8_walk_12 : decode cX8_walk 12 = .ok (.ireturn, 1) := by decide +kernel
theorem dX8_walk_13 : decode cX8_walk 13 = .ok (.aload_n 0, 1) := by decide +kernel
theorem dX8_walk_14 : decode cX8_walk 14 = .ok (.getfield 10, 3) := by decide +kernel
theorem dX8_walk_17 : decode cX8_walk 17 = .ok (.getfield 165, 3) := by decide +kernel
theorem dX8_walk_20 : decode cX8_walk 20 = .ok (.ifCond .le 9, 3) := by decide +kernel
theorem dX8_walk_23 : decode cX8_walk 23 = .ok (.aload_n 0, 1) := by decide +kernel
theorem dX8_walk_24 : decode cX8_walk 24 = .ok (.iconst 4, 1) := by decide +kernel
theorem dX8_walk_25 : decode cX8_walk 25 = .ok (.invokevirtual 67, 3) := by decide +kernel
theorem dX8_walk_28 : decode cX8_walk 28 = .ok (.ireturn, 1) := by decide +kernel
theorem dX8_walk_29 : decode cX8_walk 29 = .ok (.aload_n 0, 1) := by decide +kernel
theorem dX8_walk_30 : decode cX8_walk 30 = .ok (.getfield 10, 3) := by decide +kernel
theorem dX8_walk_33 : decode cX8_walk 33 = .ok (.iload_n 1, 1) := by decide +kernel
theorem dX8_walk_34 : decode cX8_walk 34 = .ok (.invokevirtual 168, 3) := by decide +kernel
theorem dX8_walk_37 : decode cX8_walk 37 = .ok (.aload_n 0, 1) := by decide +kernel
theorem dX8_walk_38 : decode cX8_walk 38 = .ok (.getfield 10, 3) := by decide +kernel
theorem dX8_walk_41 : decode cX8_walk 41 = .ok (.getfield 165, 3) := by decide +kernel
theorem dX8_walk_44 : decode cX8_walk 44 = .ok (.ireturn, 1) := by decide +kernel
theorem dX8_crowd_0 : decode cX8_crowd 0 = .ok (.iload_n 1, 1) := by decide +kernel
theorem dX8_crowd_1 : decode cX8_crowd 1 = .ok (.invokestatic 162, 3) := by decide +kernel
theorem dX8_crowd_4 : decode cX8_crowd 4 = .ok (.ifCond .eq 25, 3) := by decide +kernel
theorem dX8_crowd_7 : decode cX8_crowd 7 = .ok (.iload_n 2, 1) := by decide +kernel
theorem dX8_crowd_8 : decode cX8_crowd 8 = .ok (.iconst 0, 1) := by decide +kernel
theorem dX8_crowd_9 : decode cX8_crowd 9 = .ok (.sipush 999, 3) := by decide +kernel
theorem dX8_crowd_12 : decode cX8_crowd 12 = .ok (.invokestatic 63, 3) := by decide +kernel
theorem dX8_crowd_15 : decode cX8_crowd 15 = .ok (.ifCond .eq 14, 3) := by decide +kernel
theorem dX8_crowd_18 : decode cX8_crowd 18 = .ok (.iload_n 3, 1) := by decide +kernel
theorem dX8_crowd_19 : decode cX8_crowd 19 = .ok (.iconst 0, 1) := by decide +kernel
theorem dX8_crowd_20 : decode cX8_crowd 20 = .ok (.sipush 400, 3) := by decide +kernel
theorem dX8_crowd_23 : decode cX8_crowd 23 = .ok (.invokestatic 63, 3) := by decide +kernel
theorem dX8_crowd_26 : decode cX8_crowd 26 = .ok (.ifCond .ne 9, 3) := by decide +kernel
theorem dX8_crowd_29 : decode cX8_crowd 29 = .ok (.aload_n 0, 1) := by decide +kernel
theorem dX8_crowd_30 : decode cX8_crowd 30 = .ok (.iconst 0, 1) := by decide +kernel
theorem dX8_crowd_31 : decode cX8_crowd 31 = .ok (.invokevirtual 67, 3) := by decide +kernel
theorem dX8_crowd_34 : decode cX8_crowd 34 = .ok (.ireturn, 1) := by decide +kernel
theorem dX8_crowd_35 : decode cX8_crowd 35 = .ok (.aload_n 0, 1) := by decide +kernel
theorem dX8_crowd_36 : decode cX8_crowd 36 = .ok (.getfield 10, 3) := by decide +kernel
theorem dX8_crowd_39 : decode cX8_crowd 39 = .ok (.getfield 171, 3) := by decide +kernel
theorem dX8_crowd_42 : decode cX8_crowd 42 = .ok (.invokevirtual 175, 3) := by decide +kernel
theorem dX8_crowd_45 : decode cX8_crowd 45 = .ok (.ifCond .eq 9, 3) := by decide +kernel
theorem dX8_crowd_48 : decode cX8_crowd 48 = .ok (.aload_n 0, 1) := by decide +kernel
theorem dX8_crowd_49 : decode cX8_crowd 49 = .ok (.iconst 1, 1) := by decide +kernel
theorem dX8_crowd_50 : decode cX8_crowd 50 = .ok (.invokevirtual 67, 3) := by decide +kernel
theorem dX8_crowd_53 : decode cX8_crowd 53 = .ok (.ireturn, 1) := by decide +kernel
theorem dX8_crowd_54 : decode cX8_crowd 54 = .ok (.aload_n 0, 1) := by decide +kernel
theorem dX8_crowd_55 : decode cX8_crowd 55 = .ok (.getfield 10, 3) := by decide +kernel
theorem dX8_crowd_58 : decode cX8_crowd 58 = .ok (.getfield 171, 3) := by decide +kernel
theorem dX8_crowd_61 : decode cX8_crowd 61 = .ok (.iload_n 1, 1) := by decide +kernel
theorem dX8_crowd_62 : decode cX8_crowd 62 = .ok (.iload_n 2, 1) := by decide +kernel
theorem dX8_crowd_63 : decode cX8_crowd 63 = .ok (.iload_n 3, 1) := by decide +kernel
theorem dX8_crowd_64 : decode cX8_crowd 64 = .ok (.invokevirtual 178, 3) := by decide +kernel
theorem dX8_crowd_67 : decode cX8_crowd 67 = .ok (.ireturn, 1) := by decide +kernel
theorem dX8_crowdOf_0 : decode cX8_crowdOf 0 = .ok (.aload_n 0, 1) := by decide +kernel
theorem dX8_crowdOf_1 : decode cX8_crowdOf 1 = .ok (.iload_n 1, 1) := by decide +kernel
theorem dX8_crowdOf_2 : decode cX8_crowdOf 2 = .ok (.invokevirtual 181, 3) := by decide +kernel
theorem dX8_crowdOf_5 : decode cX8_crowdOf 5 = .ok (.ifCond .ne 9, 3) := by decide +kernel
theorem dX8_crowdOf_8 : decode cX8_crowdOf 8 = .ok (.aload_n 0, 1) := by decide +kernel
theorem dX8_crowdOf_9 : decode cX8_crowdOf 9 = .ok (.iconst 0, 1) := by decide +kernel
theorem dX8_crowdOf_10 : decode cX8_crowdOf 10 = .ok (.invokevirtual 67, 3) := by decide +kernel
theorem dX8_crowdOf_13 : decode cX8_crowdOf 13 = .ok (.ireturn, 1) := by decide +kernel
theorem dX8_crowdOf_14 : decode cX8_crowdOf 14 = .ok (.iload_n 2, 1) := by decide +kernel
theorem dX8_crowdOf_15 : decode cX8_crowdOf 15 = .ok (.tableswitch 77 0 3 #[29, 42, 55, 68], 29) := by decide +kernel
theorem dX8_crowdOf_44 : decode cX8_crowdOf 44 = .ok (.aload_n 0, 1) := by decide +kernel
theorem dX8_crowdOf_45 : decode cX8_crowdOf 45 = .ok (.getfield 10, 3) := by decide +kernel
theorem dX8_crowdOf_48 : decode cX8_crowdOf 48 = .ok (.getfield 171, 3) := by decide +kernel
theorem dX8_crowdOf_51 : decode cX8_crowdOf 51 = .ok (.getfield 184, 3) := by decide +kernel
theorem dX8_crowdOf_54 : decode cX8_crowdOf 54 = .ok (.iload_n 1, 1) := by decide +kernel
theorem dX8_crowdOf_55 : decode cX8_crowdOf 55 = .ok (.iaload, 1) := by decide +kernel
theorem dX8_crowdOf_56 : decode cX8_crowdOf 56 = .ok (.ireturn, 1) := by decide +kernel
theorem dX8_crowdOf_57 : decode cX8_crowdOf 57 = .ok (.aload_n 0, 1) := by decide +kernel
theorem dX8_crowdOf_58 : decode cX8_crowdOf 58 = .ok (.getfield 10, 3) := by decide +kernel
theorem dX8_crowdOf_61 : decode cX8_crowdOf 61 = .ok (.getfield 171, 3) := by decide +kernel
theorem dX8_crowdOf_64 : decode cX8_crowdOf 64 = .ok (.getfield 187, 3) := by decide +kernel
theorem dX8_crowdOf_67 : decode cX8_crowdOf 67 = .ok (.iload_n 1, 1) := by decide +kernel
theorem dX8_crowdOf_68 : decode cX8_crowdOf 68 = .ok (.iaload, 1) := by decide +kernel
theorem dX8_crowdOf_69 : decode cX8_crowdOf 69 = .ok (.ireturn, 1) := by decide +kernel
theorem dX8_crowdOf_70 : decode cX8_crowdOf 70 = .ok (.aload_n 0, 1) := by decide +kernel
theorem dX8_crowdOf_71 : decode cX8_crowdOf 71 = .ok (.getfield 10, 3) := by decide +kernel
theorem dX8_crowdOf_74 : decode cX8_crowdOf 74 = .ok (.getfield 171, 3) := by decide +kernel
theorem dX8_crowdOf_77 : decode cX8_crowdOf 77 = .ok (.getfield 190, 3) := by decide +kernel
theorem dX8_crowdOf_80 : decode cX8_crowdOf 80 = .ok (.iload_n 1, 1) := by decide +kernel
theorem dX8_crowdOf_81 : decode cX8_crowdOf 81 = .ok (.iaload, 1) := by decide +kernel
theorem dX8_crowdOf_82 : decode cX8_crowdOf 82 = .ok (.ireturn, 1) := by decide +kernel
theorem dX8_crowdOf_83 : decode cX8_crowdOf 83 = .ok (.aload_n 0, 1) := by decide +kernel
theorem dX8_crowdOf_84 : decode cX8_crowdOf 84 = .ok (.getfield 10, 3) := by decide +kernel
theorem dX8_crowdOf_87 : decode cX8_crowdOf 87 = .ok (.iload_n 1, 1) := by decide +kernel
theorem dX8_crowdOf_88 : decode cX8_crowdOf 88 = .ok (.invokevirtual 193, 3) := by decide +kernel
theorem dX8_crowdOf_91 : decode cX8_crowdOf 91 = .ok (.ireturn, 1) := by decide +kernel
theorem dX8_crowdOf_92 : decode cX8_crowdOf 92 = .ok (.aload_n 0, 1) := by decide +kernel
theorem dX8_crowdOf_93 : decode cX8_crowdOf 93 = .ok (.iconst 0, 1) := by decide +kernel
theorem dX8_crowdOf_94 : decode cX8_crowdOf 94 = .ok (.invokevirtual 67, 3) := by decide +kernel
theorem dX8_crowdOf_97 : decode cX8_crowdOf 97 = .ok (.ireturn, 1) := by decide +kernel
theorem dX8_late_0 : decode cX8_late 0 = .ok (.aload_n 0, 1) := by decide +kernel
theorem dX8_late_1 : decode cX8_late 1 = .ok (.iload_n 1, 1) := by decide +kernel
theorem dX8_late_2 : decode cX8_late 2 = .ok (.invokevirtual 181, 3) := by decide +kernel
theorem dX8_late_5 : decode cX8_late 5 = .ok (.ifCond .ne 9, 3) := by decide +kernel
theorem dX8_late_8 : decode cX8_late 8 = .ok (.aload_n 0, 1) := by decide +kernel
theorem dX8_late_9 : decode cX8_late 9 = .ok (.iconst 0, 1) := by decide +kernel
theorem dX8_late_10 : decode cX8_late 10 = .ok (.invokevirtual 67, 3) := by decide +kernel
theorem dX8_late_13 : decode cX8_late 13 = .ok (.ireturn, 1) := by decide +kernel
theorem dX8_late_14 : decode cX8_late 14 = .ok (.iload_n 2, 1) := by decide +kernel
theorem dX8_late_15 : decode cX8_late 15 = .ok (.lookupswitch 65 #[(1, 25), (2, 45)], 25) := by decide +kernel
theorem dX8_late_40 : decode cX8_late 40 = .ok (.aload_n 0, 1) := by decide +kernel
theorem dX8_late_41 : decode cX8_late 41 = .ok (.aload_n 0, 1) := by decide +kernel
theorem dX8_late_42 : decode cX8_late 42 = .ok (.getfield 10, 3) := by decide +kernel
theorem dX8_late_45 : decode cX8_late 45 = .ok (.getfield 171, 3) := by decide +kernel
theorem dX8_late_48 : decode cX8_late 48 = .ok (.getfield 187, 3) := by decide +kernel
theorem dX8_late_51 : decode cX8_late 51 = .ok (.iload_n 1, 1) := by decide +kernel
theorem dX8_late_52 : decode cX8_late 52 = .ok (.iload_n 3, 1) := by decide +kernel
theorem dX8_late_53 : decode cX8_late 53 = .ok (.sipush 999, 3) := by decide +kernel
theorem dX8_late_56 : decode cX8_late 56 = .ok (.invokevirtual 119, 3) := by decide +kernel
theorem dX8_late_59 : decode cX8_late 59 = .ok (.ireturn, 1) := by decide +kernel
theorem dX8_late_60 : decode cX8_late 60 = .ok (.aload_n 0, 1) := by decide +kernel
theorem dX8_late_61 : decode cX8_late 61 = .ok (.aload_n 0, 1) := by decide +kernel
theorem dX8_late_62 : decode cX8_late 62 = .ok (.getfield 10, 3) := by decide +kernel
theorem dX8_late_65 : decode cX8_late 65 = .ok (.getfield 171, 3) := by decide +kernel
theorem dX8_late_68 : decode cX8_late 68 = .ok (.getfield 190, 3) := by decide +kernel
theorem dX8_late_71 : decode cX8_late 71 = .ok (.iload_n 1, 1) := by decide +kernel
theorem dX8_late_72 : decode cX8_late 72 = .ok (.iload_n 3, 1) := by decide +kernel
theorem dX8_late_73 : decode cX8_late 73 = .ok (.sipush 400, 3) := by decide +kernel
theorem dX8_late_76 : decode cX8_late 76 = .ok (.invokevirtual 119, 3) := by decide +kernel
theorem dX8_late_79 : decode cX8_late 79 = .ok (.ireturn, 1) := by decide +kernel
theorem dX8_late_80 : decode cX8_late 80 = .ok (.aload_n 0, 1) := by decide +kernel
theorem dX8_late_81 : decode cX8_late 81 = .ok (.iconst 0, 1) := by decide +kernel
theorem dX8_late_82 : decode cX8_late 82 = .ok (.invokevirtual 67, 3) := by decide +kernel
theorem dX8_late_85 : decode cX8_late 85 = .ok (.ireturn, 1) := by decide +kernel
theorem dX8_minutes_0 : decode cX8_minutes 0 = .ok (.iload_n 1, 1) := by decide +kernel
theorem dX8_minutes_1 : decode cX8_minutes 1 = .ok (.invokestatic 196, 3) := by decide +kernel
theorem dX8_minutes_4 : decode cX8_minutes 4 = .ok (.ifCond .ne 9, 3) := by decide +kernel
theorem dX8_minutes_7 : decode cX8_minutes 7 = .ok (.aload_n 0, 1) := by decide +kernel
theorem dX8_minutes_8 : decode cX8_minutes 8 = .ok (.iconst 0, 1) := by decide +kernel
theorem dX8_minutes_9 : decode cX8_minutes 9 = .ok (.invokevirtual 67, 3) := by decide +kernel
theorem dX8_minutes_12 : decode cX8_minutes 12 = .ok (.ireturn, 1) := by decide +kernel
theorem dX8_minutes_13 : decode cX8_minutes 13 = .ok (.aload_n 0, 1) := by decide +kernel
theorem dX8_minutes_14 : decode cX8_minutes 14 = .ok (.iload_n 1, 1) := by decide +kernel
theorem dX8_minutes_15 : decode cX8_minutes 15 = .ok (.invokevirtual 199, 3) := by decide +kernel
theorem dX8_minutes_18 : decode cX8_minutes 18 = .ok (.ifCond .eq 9, 3) := by decide +kernel
theorem dX8_minutes_21 : decode cX8_minutes 21 = .ok (.aload_n 0, 1) := by decide +kernel
theorem dX8_minutes_22 : decode cX8_minutes 22 = .ok (.iconst 4, 1) := by decide +kernel
theorem dX8_minutes_23 : decode cX8_minutes 23 = .ok (.invokevirtual 67, 3) := by decide +kernel
theorem dX8_minutes_26 : decode cX8_minutes 26 = .ok (.ireturn, 1) := by decide +kernel
theorem dX8_minutes_27 : decode cX8_minutes 27 = .ok (.aload_n 0, 1) := by decide +kernel
theorem dX8_minutes_28 : decode cX8_minutes 28 = .ok (.getfield 10, 3) := by decide +kernel
theorem dX8_minutes_31 : decode cX8_minutes 31 = .ok (.getfield 202, 3) := by decide +kernel
theorem dX8_minutes_34 : decode cX8_minutes 34 = .ok (.istore_n 2, 1) := by decide +kernel
theorem dX8_minutes_35 : decode cX8_minutes 35 = .ok (.aload_n 0, 1) := by decide +kernel
theorem dX8_minutes_36 : decode cX8_minutes 36 = .ok (.getfield 10, 3) := by decide +kernel
theorem dX8_minutes_39 : decode cX8_minutes 39 = .ok (.iload_n 1, 1) := by decide +kernel
theorem dX8_minutes_40 : decode cX8_minutes 40 = .ok (.invokevirtual 205, 3) := by decide +kernel
theorem dX8_minutes_43 : decode cX8_minutes 43 = .ok (.pop, 1) := by decide +kernel
theorem dX8_minutes_44 : decode cX8_minutes 44 = .ok (.aload_n 0, 1) := by decide +kernel
theorem dX8_minutes_45 : decode cX8_minutes 45 = .ok (.getfield 10, 3) := by decide +kernel
theorem dX8_minutes_48 : decode cX8_minutes 48 = .ok (.getfield 202, 3) := by decide +kernel
theorem dX8_minutes_51 : decode cX8_minutes 51 = .ok (.iload_n 2, 1) := by decide +kernel
theorem dX8_minutes_52 : decode cX8_minutes 52 = .ok (.isub, 1) := by decide +kernel
theorem dX8_minutes_53 : decode cX8_minutes 53 = .ok (.ireturn, 1) := by decide +kernel
theorem dX8_now_0 : decode cX8_now 0 = .ok (.iload_n 1, 1) := by decide +kernel
theorem dX8_now_1 : decode cX8_now 1 = .ok (.tableswitch 123 0 8 #[51, 59, 67, 75, 83, 91, 99, 107, 115], 51) := by decide +kernel
theorem dX8_now_52 : decode cX8_now 52 = .ok (.aload_n 0, 1) := by decide +kernel
theorem dX8_now_53 : decode cX8_now 53 = .ok (.getfield 10, 3) := by decide +kernel
theorem dX8_now_56 : decode cX8_now 56 = .ok (.getfield 208, 3) := by decide +kernel
theorem dX8_now_59 : decode cX8_now 59 = .ok (.ireturn, 1) := by decide +kernel
theorem dX8_now_60 : decode cX8_now 60 = .ok (.aload_n 0, 1) := by decide +kernel
theorem dX8_now_61 : decode cX8_now 61 = .ok (.getfield 10, 3) := by decide +kernel
theorem dX8_now_64 : decode cX8_now 64 = .ok (.getfield 210, 3) := by decide +kernel
theorem dX8_now_67 : decode cX8_now 67 = .ok (.ireturn, 1) := by decide +kernel
theorem dX8_now_68 : decode cX8_now 68 = .ok (.aload_n 0, 1) := by decide +kernel
theorem dX8_now_69 : decode cX8_now 69 = .ok (.getfield 10, 3) := by decide +kernel
theorem dX8_now_72 : decode cX8_now 72 = .ok (.getfield 213, 3) := by decide +kernel
theorem dX8_now_75 : decode cX8_now 75 = .ok (.ireturn, 1) := by decide +kernel
theorem dX8_now_76 : decode cX8_now 76 = .ok (.aload_n 0, 1) := by decide +kernel
theorem dX8_now_77 : decode cX8_now 77 = .ok (.getfield 10, 3) := by decide +kernel
theorem dX8_now_80 : decode cX8_now 80 = .ok (.getfield 216, 3) := by decide +kernel
theorem dX8_now_83 : decode cX8_now 83 = .ok (.ireturn, 1) := by decide +kernel
theorem dX8_now_84 : decode cX8_now 84 = .ok (.aload_n 0, 1) := by decide +kernel
theorem dX8_now_85 : decode cX8_now 85 = .ok (.getfield 10, 3) := by decide +kernel
theorem dX8_now_88 : decode cX8_now 88 = .ok (.getfield 165, 3) := by decide +kernel
theorem dX8_now_91 : decode cX8_now 91 = .ok (.ireturn, 1) := by decide +kernel
theorem dX8_now_92 : decode cX8_now 92 = .ok (.aload_n 0, 1) := by decide +kernel
theorem dX8_now_93 : decode cX8_now 93 = .ok (.getfield 10, 3) := by decide +kernel
theorem dX8_now_96 : decode cX8_now 96 = .ok (.getfield 202, 3) := by decide +kernel
theorem dX8_now_99 : decode cX8_now 99 = .ok (.ireturn, 1) := by decide +kernel
theorem dX8_now_100 : decode cX8_now 100 = .ok (.aload_n 0, 1) := by decide +kernel
theorem dX8_now_101 : decode cX8_now 101 = .ok (.getfield 10, 3) := by decide +kernel
theorem dX8_now_104 : decode cX8_now 104 = .ok (.getfield 126, 3) := by decide +kernel
theorem dX8_now_107 : decode cX8_now 107 = .ok (.ireturn, 1) := by decide +kernel
theorem dX8_now_108 : decode cX8_now 108 = .ok (.aload_n 0, 1) := by decide +kernel
theorem dX8_now_109 : decode cX8_now 109 = .ok (.getfield 10, 3) := by decide +kernel
theorem dX8_now_112 : decode cX8_now 112 = .ok (.getfield 218, 3) := by decide +kernel
theorem dX8_now_115 : decode cX8_now 115 = .ok (.ireturn, 1) := by decide +kernel
theorem dX8_now_116 : decode cX8_now 116 = .ok (.aload_n 0, 1) := by decide +kernel
theorem dX8_now_117 : decode cX8_now 117 = .ok (.getfield 10, 3) := by decide +kernel
theorem dX8_now_120 : decode cX8_now 120 = .ok (.invokevirtual 148, 3) := by decide +kernel
theorem dX8_now_123 : decode cX8_now 123 = .ok (.ireturn, 1) := by decide +kernel
theorem dX8_now_124 : decode cX8_now 124 = .ok (.aload_n 0, 1) := by decide +kernel
theorem dX8_now_125 : decode cX8_now 125 = .ok (.iconst 0, 1) := by decide +kernel
theorem dX8_now_126 : decode cX8_now 126 = .ok (.invokevirtual 67, 3) := by decide +kernel
theorem dX8_now_129 : decode cX8_now 129 = .ok (.ireturn, 1) := by decide +kernel
theorem dX8_at_0 : decode cX8_at 0 = .ok (.iload_n 1, 1) := by decide +kernel
theorem dX8_at_1 : decode cX8_at 1 = .ok (.iconst 0, 1) := by decide +kernel
theorem dX8_at_2 : decode cX8_at 2 = .ok (.iconst 4, 1) := by decide +kernel
theorem dX8_at_3 : decode cX8_at 3 = .ok (.invokestatic 63, 3) := by decide +kernel
theorem dX8_at_6 : decode cX8_at 6 = .ok (.ifCond .ne 9, 3) := by decide +kernel
theorem dX8_at_9 : decode cX8_at 9 = .ok (.aload_n 0, 1) := by decide +kernel
theorem dX8_at_10 : decode cX8_at 10 = .ok (.iconst 0, 1) := by decide +kernel
theorem dX8_at_11 : decode cX8_at 11 = .ok (.invokevirtual 67, 3) := by decide +kernel
theorem dX8_at_14 : decode cX8_at 14 = .ok (.ireturn, 1) := by decide +kernel
theorem dX8_at_15 : decode cX8_at 15 = .ok (.aload_n 0, 1) := by decide +kernel
theorem dX8_at_16 : decode cX8_at 16 = .ok (.getfield 10, 3) := by decide +kernel
theorem dX8_at_19 : decode cX8_at 19 = .ok (.getfield 71, 3) := by decide +kernel
theorem dX8_at_22 : decode cX8_at 22 = .ok (.iload_n 1, 1) := by decide +kernel
theorem dX8_at_23 : decode cX8_at 23 = .ok (.invokevirtual 221, 3) := by decide +kernel
theorem dX8_at_26 : decode cX8_at 26 = .ok (.ireturn, 1) := by decide +kernel
theorem dX8_ahead_0 : decode cX8_ahead 0 = .ok (.iload_n 1, 1) := by decide +kernel
theorem dX8_ahead_1 : decode cX8_ahead 1 = .ok (.iconst 0, 1) := by decide +kernel
theorem dX8_ahead_2 : decode cX8_ahead 2 = .ok (.sipush 200, 3) := by decide +kernel
theorem dX8_ahead_5 : decode cX8_ahead 5 = .ok (.invokestatic 63, 3) := by decide +kernel
theorem dX8_ahead_8 : decode cX8_ahead 8 = .ok (.ifCond .eq 23, 3) := by decide +kernel
theorem dX8_ahead_11 : decode cX8_ahead 11 = .ok (.iload_n 2, 1) := by decide +kernel
theorem dX8_ahead_12 : decode cX8_ahead 12 = .ok (.iconst 0, 1) := by decide +kernel
theorem dX8_ahead_13 : decode cX8_ahead 13 = .ok (.iconst 5, 1) := by decide +kernel
theorem dX8_ahead_14 : decode cX8_ahead 14 = .ok (.aload_n 0, 1) := by decide +kernel
theorem dX8_ahead_15 : decode cX8_ahead 15 = .ok (.getfield 10, 3) := by decide +kernel
theorem dX8_ahead_18 : decode cX8_ahead 18 = .ok (.getfield 71, 3) := by decide +kernel
theorem dX8_ahead_21 : decode cX8_ahead 21 = .ok (.getfield 224, 3) := by decide +kernel
theorem dX8_ahead_24 : decode cX8_ahead 24 = .ok (.iadd, 1) := by decide +kernel
theorem dX8_ahead_25 : decode cX8_ahead 25 = .ok (.invokestatic 63, 3) := by decide +kernel
theorem dX8_ahead_28 : decode cX8_ahead 28 = .ok (.ifCond .ne 9, 3) := by decide +kernel
theorem dX8_ahead_31 : decode cX8_ahead 31 = .ok (.aload_n 0, 1) := by decide +kernel
theorem dX8_ahead_32 : decode cX8_ahead 32 = .ok (.iconst 0, 1) := by decide +kernel
theorem dX8_ahead_33 : decode cX8_ahead 33 = .ok (.invokevirtual 67, 3) := by decide +kernel
theorem dX8_ahead_36 : decode cX8_ahead 36 = .ok (.ireturn, 1) := by decide +kernel
theorem dX8_ahead_37 : decode cX8_ahead 37 = .ok (.aload_n 0, 1) := by decide +kernel
theorem dX8_ahead_38 : decode cX8_ahead 38 = .ok (.iload_n 1, 1) := by decide +kernel
theorem dX8_ahead_39 : decode cX8_ahead 39 = .ok (.invokevirtual 199, 3) := by decide +kernel
theorem dX8_ahead_42 : decode cX8_ahead 42 = .ok (.ifCond .eq 9, 3) := by decide +kernel
theorem dX8_ahead_45 : decode cX8_ahead 45 = .ok (.aload_n 0, 1) := by decide +kernel
theorem dX8_ahead_46 : decode cX8_ahead 46 = .ok (.iconst 4, 1) := by decide +kernel
theorem dX8_ahead_47 : decode cX8_ahead 47 = .ok (.invokevirtual 67, 3) := by decide +kernel
theorem dX8_ahead_50 : decode cX8_ahead 50 = .ok (.ireturn, 1) := by decide +kernel
theorem dX8_ahead_51 : decode cX8_ahead 51 = .ok (.aload_n 0, 1) := by decide +kernel
theorem dX8_ahead_52 : decode cX8_ahead 52 = .ok (.getfield 19, 3) := by decide +kernel
theorem dX8_ahead_55 : decode cX8_ahead 55 = .ok (.aload_n 0, 1) := by decide +kernel
theorem dX8_ahead_56 : decode cX8_ahead 56 = .ok (.getfield 10, 3) := by decide +kernel
theorem dX8_ahead_59 : decode cX8_ahead 59 = .ok (.invokevirtual 227, 3) := by decide +kernel
theorem dX8_ahead_62 : decode cX8_ahead 62 = .ok (.aload_n 0, 1) := by decide +kernel
theorem dX8_ahead_63 : decode cX8_ahead 63 = .ok (.getfield 19, 3) := by decide +kernel
theorem dX8_ahead_66 : decode cX8_ahead 66 = .ok (.iload_n 1, 1) := by decide +kernel
theorem dX8_ahead_67 : decode cX8_ahead 67 = .ok (.invokevirtual 205, 3) := by decide +kernel
theorem dX8_ahead_70 : decode cX8_ahead 70 = .ok (.istore_n 3, 1) := by decide +kernel
theorem dX8_ahead_71 : decode cX8_ahead 71 = .ok (.iload_n 2, 1) := by decide +kernel
theorem dX8_ahead_72 : decode cX8_ahead 72 = .ok (.tableswitch 104 0 5 #[40, 42, 58, 74, 82, 93], 40) := by decide +kernel
theorem dX8_ahead_112 : decode cX8_ahead 112 = .ok (.iload_n 3, 1) := by decide +kernel
theorem dX8_ahead_113 : decode cX8_ahead 113 = .ok (.ireturn, 1) := by decide +kernel
theorem dX8_ahead_114 : decode cX8_ahead 114 = .ok (.aload_n 0, 1) := by decide +kernel
theorem dX8_ahead_115 : decode cX8_ahead 115 = .ok (.getfield 19, 3) := by decide +kernel
theorem dX8_ahead_118 : decode cX8_ahead 118 = .ok (.getfield 202, 3) := by decide +kernel
theorem dX8_ahead_121 : decode cX8_ahead 121 = .ok (.aload_n 0, 1) := by decide +kernel
theorem dX8_ahead_122 : decode cX8_ahead 122 = .ok (.getfield 10, 3) := by decide +kernel
theorem dX8_ahead_125 : decode cX8_ahead 125 = .ok (.getfield 202, 3) := by decide +kernel
theorem dX8_ahead_128 : decode cX8_ahead 128 = .ok (.isub, 1) := by decide +kernel
theorem dX8_ahead_129 : decode cX8_ahead 129 = .ok (.ireturn, 1) := by decide +kernel
theorem dX8_ahead_130 : decode cX8_ahead 130 = .ok (.aload_n 0, 1) := by decide +kernel
theorem dX8_ahead_131 : decode cX8_ahead 131 = .ok (.getfield 19, 3) := by decide +kernel
theorem dX8_ahead_134 : decode cX8_ahead 134 = .ok (.getfield 218, 3) := by decide +kernel
theorem dX8_ahead_137 : decode cX8_ahead 137 = .ok (.aload_n 0, 1) := by decide +kernel
theorem dX8_ahead_138 : decode cX8_ahead 138 = .ok (.getfield 10, 3) := by decide +kernel
theorem dX8_ahead_141 : decode cX8_ahead 141 = .ok (.getfield 218, 3) := by decide +kernel
theorem dX8_ahead_144 : decode cX8_ahead 144 = .ok (.isub, 1) := by decide +kernel
theorem dX8_ahead_145 : decode cX8_ahead 145 = .ok (.ireturn, 1) := by decide +kernel
theorem dX8_ahead_146 : decode cX8_ahead 146 = .ok (.aload_n 0, 1) := by decide +kernel
theorem dX8_ahead_147 : decode cX8_ahead 147 = .ok (.getfield 19, 3) := by decide +kernel
theorem dX8_ahead_150 : decode cX8_ahead 150 = .ok (.getfield 213, 3) := by decide +kernel
theorem dX8_ahead_153 : decode cX8_ahead 153 = .ok (.ireturn, 1) := by decide +kernel
theorem dX8_ahead_154 : decode cX8_ahead 154 = .ok (.aload_n 0, 1) := by decide +kernel
theorem dX8_ahead_155 : decode cX8_ahead 155 = .ok (.getfield 19, 3) := by decide +kernel
theorem dX8_ahead_158 : decode cX8_ahead 158 = .ok (.getfield 71, 3) := by decide +kernel
theorem dX8_ahead_161 : decode cX8_ahead 161 = .ok (.invokevirtual 231, 3) := by decide +kernel
theorem dX8_ahead_164 : decode cX8_ahead 164 = .ok (.ireturn, 1) := by decide +kernel
theorem dX8_ahead_165 : decode cX8_ahead 165 = .ok (.aload_n 0, 1) := by decide +kernel
theorem dX8_ahead_166 : decode cX8_ahead 166 = .ok (.getfield 19, 3) := by decide +kernel
theorem dX8_ahead_169 : decode cX8_ahead 169 = .ok (.getfield 71, 3) := by decide +kernel
theorem dX8_ahead_172 : decode cX8_ahead 172 = .ok (.invokevirtual 234, 3) := by decide +kernel
theorem dX8_ahead_175 : decode cX8_ahead 175 = .ok (.ireturn, 1) := by decide +kernel
theorem dX8_ahead_176 : decode cX8_ahead 176 = .ok (.aload_n 0, 1) := by decide +kernel
theorem dX8_ahead_177 : decode cX8_ahead 177 = .ok (.getfield 19, 3) := by decide +kernel
theorem dX8_ahead_180 : decode cX8_ahead 180 = .ok (.getfield 71, 3) := by decide +kernel
theorem dX8_ahead_183 : decode cX8_ahead 183 = .ok (.getfield 94, 3) := by decide +kernel
theorem dX8_ahead_186 : decode cX8_ahead 186 = .ok (.iload_n 2, 1) := by decide +kernel
theorem dX8_ahead_187 : decode cX8_ahead 187 = .ok (.bipush 6, 2) := by decide +kernel
theorem dX8_ahead_189 : decode cX8_ahead 189 = .ok (.isub, 1) := by decide +kernel
theorem dX8_ahead_190 : decode cX8_ahead 190 = .ok (.iaload, 1) := by decide +kernel
theorem dX8_ahead_191 : decode cX8_ahead 191 = .ok (.ireturn, 1) := by decide +kernel
theorem dX8_ready_0 : decode cX8_ready 0 = .ok (.aload_n 0, 1) := by decide +kernel
theorem dX8_ready_1 : decode cX8_ready 1 = .ok (.iload_n 1, 1) := by decide +kernel
theorem dX8_ready_2 : decode cX8_ready 2 = .ok (.invokevirtual 84, 3) := by decide +kernel
theorem dX8_ready_5 : decode cX8_ready 5 = .ok (.ifCond .ne 9, 3) := by decide +kernel
theorem dX8_ready_8 : decode cX8_ready 8 = .ok (.aload_n 0, 1) := by decide +kernel
theorem dX8_ready_9 : decode cX8_ready 9 = .ok (.iconst 0, 1) := by decide +kernel
theorem dX8_ready_10 : decode cX8_ready 10 = .ok (.invokevirtual 67, 3) := by decide +kernel
theorem dX8_ready_13 : decode cX8_ready 13 = .ok (.ireturn, 1) := by decide +kernel
theorem dX8_ready_14 : decode cX8_ready 14 = .ok (.aload_n 0, 1) := by decide +kernel
theorem dX8_ready_15 : decode cX8_ready 15 = .ok (.getfield 10, 3) := by decide +kernel
theorem dX8_ready_18 : decode cX8_ready 18 = .ok (.getfield 71, 3) := by decide +kernel
theorem dX8_ready_21 : decode cX8_ready 21 = .ok (.iload_n 1, 1) := by decide +kernel
theorem dX8_ready_22 : decode cX8_ready 22 = .ok (.invokevirtual 135, 3) := by decide +kernel
theorem dX8_ready_25 : decode cX8_ready 25 = .ok (.ifCond .ne 13, 3) := by decide +kernel
theorem dX8_ready_28 : decode cX8_ready 28 = .ok (.aload_n 0, 1) := by decide +kernel
theorem dX8_ready_29 : decode cX8_ready 29 = .ok (.sipush 200, 3) := by decide +kernel
theorem dX8_ready_32 : decode cX8_ready 32 = .ok (.invokevirtual 199, 3) := by decide +kernel
theorem dX8_ready_35 : decode cX8_ready 35 = .ok (.ifCond .eq 9, 3) := by decide +kernel
theorem dX8_ready_38 : decode cX8_ready 38 = .ok (.aload_n 0, 1) := by decide +kernel
theorem dX8_ready_39 : decode cX8_ready 39 = .ok (.iconst 4, 1) := by decide +kernel
theorem dX8_ready_40 : decode cX8_ready 40 = .ok (.invokevirtual 67, 3) := by decide +kernel
theorem dX8_ready_43 : decode cX8_ready 43 = .ok (.ireturn, 1) := by decide +kernel
theorem dX8_ready_44 : decode cX8_ready 44 = .ok (.aload_n 0, 1) := by decide +kernel
theorem dX8_ready_45 : decode cX8_ready 45 = .ok (.getfield 19, 3) := by decide +kernel
theorem dX8_ready_48 : decode cX8_ready 48 = .ok (.aload_n 0, 1) := by decide +kernel
theorem dX8_ready_49 : decode cX8_ready 49 = .ok (.getfield 10, 3) := by decide +kernel
theorem dX8_ready_52 : decode cX8_ready 52 = .ok (.invokevirtual 227, 3) := by decide +kernel
theorem dX8_ready_55 : decode cX8_ready 55 = .ok (.aload_n 0, 1) := by decide +kernel
theorem dX8_ready_56 : decode cX8_ready 56 = .ok (.iload_n 1, 1) := by decide +kernel
theorem dX8_ready_57 : decode cX8_ready 57 = .ok (.sipush 200, 3) := by decide +kernel
theorem dX8_ready_60 : decode cX8_ready 60 = .ok (.invokevirtual 237, 3) := by decide +kernel
theorem dX8_ready_63 : decode cX8_ready 63 = .ok (.istore_n 2, 1) := by decide +kernel
theorem dX8_ready_64 : decode cX8_ready 64 = .ok (.iload_n 2, 1) := by decide +kernel
theorem dX8_ready_65 : decode cX8_ready 65 = .ok (.ifCond .ge 11, 3) := by decide +kernel
theorem dX8_ready_68 : decode cX8_ready 68 = .ok (.aload_n 0, 1) := by decide +kernel
theorem dX8_ready_69 : decode cX8_ready 69 = .ok (.iconst 3, 1) := by decide +kernel
theorem dX8_ready_70 : decode cX8_ready 70 = .ok (.invokevirtual 67, 3) := by decide +kernel
theorem dX8_ready_73 : decode cX8_ready 73 = .ok (.goto 4, 3) := by decide +kernel
theorem dX8_ready_76 : decode cX8_ready 76 = .ok (.iload_n 2, 1) := by decide +kernel
theorem dX8_ready_77 : decode cX8_ready 77 = .ok (.ireturn, 1) := by decide +kernel
theorem dX8_burnt_0 : decode cX8_burnt 0 = .ok (.aload_n 0, 1) := by decide +kernel
theorem dX8_burnt_1 : decode cX8_burnt 1 = .ok (.iload_n 1, 1) := by decide +kernel
theorem dX8_burnt_2 : decode cX8_burnt 2 = .ok (.invokevirtual 84, 3) := by decide +kernel
theorem dX8_burnt_5 : decode cX8_burnt 5 = .ok (.ifCond .ne 9, 3) := by decide +kernel
theorem dX8_burnt_8 : decode cX8_burnt 8 = .ok (.aload_n 0, 1) := by decide +kernel
theorem dX8_burnt_9 : decode cX8_burnt 9 = .ok (.iconst 0, 1) := by decide +kernel
theorem dX8_burnt_10 : decode cX8_burnt 10 = .ok (.invokevirtual 67, 3) := by decide +kernel
theorem dX8_burnt_13 : decode cX8_burnt 13 = .ok (.ireturn, 1) := by decide +kernel
theorem dX8_burnt_14 : decode cX8_burnt 14 = .ok (.aload_n 0, 1) := by decide +kernel
theorem dX8_burnt_15 : decode cX8_burnt 15 = .ok (.getfield 10, 3) := by decide +kernel
theorem dX8_burnt_18 : decode cX8_burnt 18 = .ok (.getfield 71, 3) := by decide +kernel
theorem dX8_burnt_21 : decode cX8_burnt 21 = .ok (.iload_n 1, 1) := by decide +kernel
theorem dX8_burnt_22 : decode cX8_burnt 22 = .ok (.invokevirtual 135, 3) := by decide +kernel
theorem dX8_burnt_25 : decode cX8_burnt 25 = .ok (.ifCond .ne 13, 3) := by decide +kernel
theorem dX8_burnt_28 : decode cX8_burnt 28 = .ok (.aload_n 0, 1) := by decide +kernel
theorem dX8_burnt_29 : decode cX8_burnt 29 = .ok (.sipush 200, 3) := by decide +kernel
theorem dX8_burnt_32 : decode cX8_burnt 32 = .ok (.invokevirtual 199, 3) := by decide +kernel
theorem dX8_burnt_35 : decode cX8_burnt 35 = .ok (.ifCond .eq 9, 3) := by decide +kernel
theorem dX8_burnt_38 : decode cX8_burnt 38 = .ok (.aload_n 0, 1) := by decide +kernel
theorem dX8_burnt_39 : decode cX8_burnt 39 = .ok (.iconst 4, 1) := by decide +kernel
theorem dX8_burnt_40 : decode cX8_burnt 40 = .ok (.invokevirtual 67, 3) := by decide +kernel
theorem dX8_burnt_43 : decode cX8_burnt 43 = .ok (.ireturn, 1) := by decide +kernel
theorem dX8_burnt_44 : decode cX8_burnt 44 = .ok (.aload_n 0, 1) := by decide +kernel
theorem dX8_burnt_45 : decode cX8_burnt 45 = .ok (.getfield 19, 3) := by decide +kernel
theorem dX8_burnt_48 : decode cX8_burnt 48 = .ok (.aload_n 0, 1) := by decide +kernel
theorem dX8_burnt_49 : decode cX8_burnt 49 = .ok (.getfield 10, 3) := by decide +kernel
theorem dX8_burnt_52 : decode cX8_burnt 52 = .ok (.invokevirtual 227, 3) := by decide +kernel
theorem dX8_burnt_55 : decode cX8_burnt 55 = .ok (.iconst 0, 1) := by decide +kernel
theorem dX8_burnt_56 : decode cX8_burnt 56 = .ok (.istore_n 2, 1) := by decide +kernel
theorem dX8_burnt_57 : decode cX8_burnt 57 = .ok (.iload_n 2, 1) := by decide +kernel
theorem dX8_burnt_58 : decode cX8_burnt 58 = .ok (.sipush 200, 3) := by decide +kernel
theorem dX8_burnt_61 : decode cX8_burnt 61 = .ok (.if_icmp .gt 48, 3) := by decide +kernel
theorem dX8_burnt_64 : decode cX8_burnt 64 = .ok (.aload_n 0, 1) := by decide +kernel
theorem dX8_burnt_65 : decode cX8_burnt 65 = .ok (.getfield 19, 3) := by decide +kernel
theorem dX8_burnt_68 : decode cX8_burnt 68 = .ok (.getfield 71, 3) := by decide +kernel
theorem dX8_burnt_71 : decode cX8_burnt 71 = .ok (.iload_n 1, 1) := by decide +kernel
theorem dX8_burnt_72 : decode cX8_burnt 72 = .ok (.invokevirtual 135, 3) := by decide +kernel
theorem dX8_burnt_75 : decode cX8_burnt 75 = .ok (.ifCond .ne 17, 3) := by decide +kernel
theorem dX8_burnt_78 : decode cX8_burnt 78 = .ok (.aload_n 0, 1) := by decide +kernel
theorem dX8_burnt_79 : decode cX8_burnt 79 = .ok (.getfield 19, 3) := by decide +kernel
theorem dX8_burnt_82 : decode cX8_burnt 82 = .ok (.getfield 71, 3) := by decide +kernel
theorem dX8_burnt_85 : decode cX8_burnt 85 = .ok (.iload_n 1, 1) := by decide +kernel
theorem dX8_burnt_86 : decode cX8_burnt 86 = .ok (.invokevirtual 138, 3) := by decide +kernel
theorem dX8_burnt_89 : decode cX8_burnt 89 = .ok (.ifCond .eq 5, 3) := by decide +kernel
theorem dX8_burnt_92 : decode cX8_burnt 92 = .ok (.iload_n 2, 1) := by decide +kernel
theorem dX8_burnt_93 : decode cX8_burnt 93 = .ok (.ireturn, 1) := by decide +kernel
theorem dX8_burnt_94 : decode cX8_burnt 94 = .ok (.aload_n 0, 1) := by decide +kernel
theorem dX8_burnt_95 : decode cX8_burnt 95 = .ok (.getfield 19, 3) := by decide +kernel
theorem dX8_burnt_98 : decode cX8_burnt 98 = .ok (.iconst 1, 1) := by decide +kernel
theorem dX8_burnt_99 : decode cX8_burnt 99 = .ok (.invokevirtual 205, 3) := by decide +kernel
theorem dX8_burnt_102 : decode cX8_burnt 102 = .ok (.pop, 1) := by decide +kernel
theorem dX8_burnt_103 : decode cX8_burnt 103 = .ok (.iinc 2 1, 3) := by decide +kernel
theorem dX8_burnt_106 : decode cX8_burnt 106 = .ok (.goto (-49), 3) := by decide +kernel
theorem dX8_burnt_109 : decode cX8_burnt 109 = .ok (.aload_n 0, 1) := by decide +kernel
theorem dX8_burnt_110 : decode cX8_burnt 110 = .ok (.iconst 3, 1) := by decide +kernel
theorem dX8_burnt_111 : decode cX8_burnt 111 = .ok (.invokevirtual 67, 3) := by decide +kernel
theorem dX8_burnt_114 : decode cX8_burnt 114 = .ok (.ireturn, 1) := by decide +kernel
theorem dX8_putOn_0 : decode cX8_putOn 0 = .ok (.aload_n 0, 1) := by decide +kernel
theorem dX8_putOn_1 : decode cX8_putOn 1 = .ok (.iload_n 1, 1) := by decide +kernel
theorem dX8_putOn_2 : decode cX8_putOn 2 = .ok (.invokevirtual 84, 3) := by decide +kernel
theorem dX8_putOn_5 : decode cX8_putOn 5 = .ok (.ifCond .eq 14, 3) := by decide +kernel
theorem dX8_putOn_8 : decode cX8_putOn 8 = .ok (.iload_n 2, 1) := by decide +kernel
theorem dX8_putOn_9 : decode cX8_putOn 9 = .ok (.iconst 0, 1) := by decide +kernel
theorem dX8_putOn_10 : decode cX8_putOn 10 = .ok (.sipush 999, 3) := by decide +kernel
theorem dX8_putOn_13 : decode cX8_putOn 13 = .ok (.invokestatic 63, 3) := by decide +kernel
theorem dX8_putOn_16 : decode cX8_putOn 16 = .ok (.ifCond .ne 9, 3) := by decide +kernel
theorem dX8_putOn_19 : decode cX8_putOn 19 = .ok (.aload_n 0, 1) := by decide +kernel
theorem dX8_putOn_20 : decode cX8_putOn 20 = .ok (.iconst 0, 1) := by decide +kernel
theorem dX8_putOn_21 : decode cX8_putOn 21 = .ok (.invokevirtual 67, 3) := by decide +kernel
theorem dX8_putOn_24 : decode cX8_putOn 24 = .ok (.ireturn, 1) := by decide +kernel
theorem dX8_putOn_25 : decode cX8_putOn 25 = .ok (.aload_n 0, 1) := by decide +kernel
theorem dX8_putOn_26 : decode cX8_putOn 26 = .ok (.getfield 10, 3) := by decide +kernel
theorem dX8_putOn_29 : decode cX8_putOn 29 = .ok (.getfield 71, 3) := by decide +kernel
theorem dX8_putOn_32 : decode cX8_putOn 32 = .ok (.getfield 100, 3) := by decide +kernel
theorem dX8_putOn_35 : decode cX8_putOn 35 = .ok (.iload_n 1, 1) := by decide +kernel
theorem dX8_putOn_36 : decode cX8_putOn 36 = .ok (.iaload, 1) := by decide +kernel
theorem dX8_putOn_37 : decode cX8_putOn 37 = .ok (.ifCond .ne 13, 3) := by decide +kernel
theorem dX8_putOn_40 : decode cX8_putOn 40 = .ok (.aload_n 0, 1) := by decide +kernel
theorem dX8_putOn_41 : decode cX8_putOn 41 = .ok (.sipush 260, 3) := by decide +kernel
theorem dX8_putOn_44 : decode cX8_putOn 44 = .ok (.invokevirtual 199, 3) := by decide +kernel
theorem dX8_putOn_47 : decode cX8_putOn 47 = .ok (.ifCond .eq 9, 3) := by decide +kernel
theorem dX8_putOn_50 : decode cX8_putOn 50 = .ok (.aload_n 0, 1) := by decide +kernel
theorem dX8_putOn_51 : decode cX8_putOn 51 = .ok (.iconst 4, 1) := by decide +kernel
theorem dX8_putOn_52 : decode cX8_putOn 52 = .ok (.invokevirtual 67, 3) := by decide +kernel
theorem dX8_putOn_55 : decode cX8_putOn 55 = .ok (.ireturn, 1) := by decide +kernel
theorem dX8_putOn_56 : decode cX8_putOn 56 = .ok (.iconst (-1), 1) := by decide +kernel
theorem dX8_putOn_57 : decode cX8_putOn 57 = .ok (.istore_n 3, 1) := by decide +kernel
theorem dX8_putOn_58 : decode cX8_putOn 58 = .ok (.aload_n 0, 1) := by decide +kernel
theorem dX8_putOn_59 : decode cX8_putOn 59 = .ok (.getfield 22, 3) := by decide +kernel
theorem dX8_putOn_62 : decode cX8_putOn 62 = .ok (.aload_n 0, 1) := by decide +kernel
theorem dX8_putOn_63 : decode cX8_putOn 63 = .ok (.getfield 10, 3) := by decide +kernel
theorem dX8_putOn_66 : decode cX8_putOn 66 = .ok (.invokevirtual 227, 3) := by decide +kernel
theorem dX8_putOn_69 : decode cX8_putOn 69 = .ok (.iconst 0, 1) := by decide +kernel
theorem dX8_putOn_70 : decode cX8_putOn 70 = .ok (.istore 4, 2) := by decide +kernel
theorem dX8_putOn_72 : decode cX8_putOn 72 = .ok (.iload 4, 2) := by decide +kernel
theorem dX8_putOn_74 : decode cX8_putOn 74 = .ok (.bipush 60, 2) := by decide +kernel
theorem dX8_putOn_76 : decode cX8_putOn 76 = .ok (.if_icmp .gt 44, 3) := by decide +kernel
theorem dX8_putOn_79 : decode cX8_putOn 79 = .ok (.aload_n 0, 1) := by decide +kernel
theorem dX8_putOn_80 : decode cX8_putOn 80 = .ok (.getfield 22, 3) := by decide +kernel
theorem dX8_putOn_83 : decode cX8_putOn 83 = .ok (.getfield 71, 3) := by decide +kernel
theorem dX8_putOn_86 : decode cX8_putOn 86 = .ok (.iconst 1, 1) := by decide +kernel
theorem dX8_putOn_87 : decode cX8_putOn 87 = .ok (.invokevirtual 123, 3) := by decide +kernel
theorem dX8_putOn_90 : decode cX8_putOn 90 = .ok (.ifCond .eq 15, 3) := by decide +kernel
theorem dX8_putOn_93 : decode cX8_putOn 93 = .ok (.aload_n 0, 1) := by decide +kernel
theorem dX8_putOn_94 : decode cX8_putOn 94 = .ok (.iload_n 1, 1) := by decide +kernel
theorem dX8_putOn_95 : decode cX8_putOn 95 = .ok (.iload_n 2, 1) := by decide +kernel
theorem dX8_putOn_96 : decode cX8_putOn 96 = .ok (.invokevirtual 240, 3) := by decide +kernel
theorem dX8_putOn_99 : decode cX8_putOn 99 = .ok (.ifCond .eq 6, 3) := by decide +kernel
theorem dX8_putOn_102 : decode cX8_putOn 102 = .ok (.iload 4, 2) := by decide +kernel
theorem dX8_putOn_104 : decode cX8_putOn 104 = .ok (.istore_n 3, 1) := by decide +kernel
theorem dX8_putOn_105 : decode cX8_putOn 105 = .ok (.aload_n 0, 1) := by decide +kernel
theorem dX8_putOn_106 : decode cX8_putOn 106 = .ok (.getfield 22, 3) := by decide +kernel
theorem dX8_putOn_109 : decode cX8_putOn 109 = .ok (.iconst 1, 1) := by decide +kernel
theorem dX8_putOn_110 : decode cX8_putOn 110 = .ok (.invokevirtual 205, 3) := by decide +kernel
theorem dX8_putOn_113 : decode cX8_putOn 113 = .ok (.pop, 1) := by decide +kernel
theorem dX8_putOn_114 : decode cX8_putOn 114 = .ok (.iinc 4 1, 3) := by decide +kernel
theorem dX8_putOn_117 : decode cX8_putOn 117 = .ok (.goto (-45), 3) := by decide +kernel
theorem dX8_putOn_120 : decode cX8_putOn 120 = .ok (.iload_n 3, 1) := by decide +kernel
theorem dX8_putOn_121 : decode cX8_putOn 121 = .ok (.ifCond .ge 11, 3) := by decide +kernel
theorem dX8_putOn_124 : decode cX8_putOn 124 = .ok (.aload_n 0, 1) := by decide +kernel
theorem dX8_putOn_125 : decode cX8_putOn 125 = .ok (.iconst 3, 1) := by decide +kernel
theorem dX8_putOn_126 : decode cX8_putOn 126 = .ok (.invokevirtual 67, 3) := by decide +kernel
theorem dX8_putOn_129 : decode cX8_putOn 129 = .ok (.goto 4, 3) := by decide +kernel
theorem dX8_putOn_132 : decode cX8_putOn 132 = .ok (.iload_n 3, 1) := by decide +kernel
theorem dX8_putOn_133 : decode cX8_putOn 133 = .ok (.ireturn, 1) := by decide +kernel
theorem dX8_takeOff_0 : decode cX8_takeOff 0 = .ok (.aload_n 0, 1) := by decide +kernel
theorem dX8_takeOff_1 : decode cX8_takeOff 1 = .ok (.iload_n 1, 1) := by decide +kernel
theorem dX8_takeOff_2 : decode cX8_takeOff 2 = .ok (.invokevirtual 84, 3) := by decide +kernel
theorem dX8_takeOff_5 : decode cX8_takeOff 5 = .ok (.ifCond .eq 10, 3) := by decide +kernel
theorem dX8_takeOff_8 : decode cX8_takeOff 8 = .ok (.iload_n 2, 1) := by decide +kernel
theorem dX8_takeOff_9 : decode cX8_takeOff 9 = .ok (.invokestatic 196, 3) := by decide +kernel
theorem dX8_takeOff_12 : decode cX8_takeOff 12 = .ok (.ifCond .ne 9, 3) := by decide +kernel
theorem dX8_takeOff_15 : decode cX8_takeOff 15 = .ok (.aload_n 0, 1) := by decide +kernel
theorem dX8_takeOff_16 : decode cX8_takeOff 16 = .ok (.iconst 0, 1) := by decide +kernel
theorem dX8_takeOff_17 : decode cX8_takeOff 17 = .ok (.invokevirtual 67, 3) := by decide +kernel
theorem dX8_takeOff_20 : decode cX8_takeOff 20 = .ok (.ireturn, 1) := by decide +kernel
theorem dX8_takeOff_21 : decode cX8_takeOff 21 = .ok (.aload_n 0, 1) := by decide +kernel
theorem dX8_takeOff_22 : decode cX8_takeOff 22 = .ok (.getfield 10, 3) := by decide +kernel
theorem dX8_takeOff_25 : decode cX8_takeOff 25 = .ok (.getfield 71, 3) := by decide +kernel
theorem dX8_takeOff_28 : decode cX8_takeOff 28 = .ok (.iload_n 1, 1) := by decide +kernel
theorem dX8_takeOff_29 : decode cX8_takeOff 29 = .ok (.invokevirtual 244, 3) := by decide +kernel
theorem dX8_takeOff_32 : decode cX8_takeOff 32 = .ok (.ifCond .eq 11, 3) := by decide +kernel
theorem dX8_takeOff_35 : decode cX8_takeOff 35 = .ok (.aload_n 0, 1) := by decide +kernel
theorem dX8_takeOff_36 : decode cX8_takeOff 36 = .ok (.iload_n 2, 1) := by decide +kernel
theorem dX8_takeOff_37 : decode cX8_takeOff 37 = .ok (.invokevirtual 199, 3) := by decide +kernel
theorem dX8_takeOff_40 : decode cX8_takeOff 40 = .ok (.ifCond .eq 9, 3) := by decide +kernel
theorem dX8_takeOff_43 : decode cX8_takeOff 43 = .ok (.aload_n 0, 1) := by decide +kernel
theorem dX8_takeOff_44 : decode cX8_takeOff 44 = .ok (.iconst 4, 1) := by decide +kernel
theorem dX8_takeOff_45 : decode cX8_takeOff 45 = .ok (.invokevirtual 67, 3) := by decide +kernel
theorem dX8_takeOff_48 : decode cX8_takeOff 48 = .ok (.ireturn, 1) := by decide +kernel
theorem dX8_takeOff_49 : decode cX8_takeOff 49 = .ok (.aload_n 0, 1) := by decide +kernel
theorem dX8_takeOff_50 : decode cX8_takeOff 50 = .ok (.getfield 28, 3) := by decide +kernel
theorem dX8_takeOff_53 : decode cX8_takeOff 53 = .ok (.invokevirtual 247, 3) := by decide +kernel
theorem dX8_takeOff_56 : decode cX8_takeOff 56 = .ok (.aload_n 0, 1) := by decide +kernel
theorem dX8_takeOff_57 : decode cX8_takeOff 57 = .ok (.getfield 22, 3) := by decide +kernel
theorem dX8_takeOff_60 : decode cX8_takeOff 60 = .ok (.aload_n 0, 1) := by decide +kernel
theorem dX8_takeOff_61 : decode cX8_takeOff 61 = .ok (.getfield 10, 3) := by decide +kernel
theorem dX8_takeOff_64 : decode cX8_takeOff 64 = .ok (.invokevirtual 227, 3) := by decide +kernel
theorem dX8_takeOff_67 : decode cX8_takeOff 67 = .ok (.iload_n 2, 1) := by decide +kernel
theorem dX8_takeOff_68 : decode cX8_takeOff 68 = .ok (.bipush 60, 2) := by decide +kernel
theorem dX8_takeOff_70 : decode cX8_takeOff 70 = .ok (.invokestatic 250, 3) := by decide +kernel
theorem dX8_takeOff_73 : decode cX8_takeOff 73 = .ok (.istore_n 3, 1) := by decide +kernel
theorem dX8_takeOff_74 : decode cX8_takeOff 74 = .ok (.iconst 0, 1) := by decide +kernel
theorem dX8_takeOff_75 : decode cX8_takeOff 75 = .ok (.istore 4, 2) := by decide +kernel
theorem dX8_takeOff_77 : decode cX8_takeOff 77 = .ok (.iload 4, 2) := by decide +kernel
theorem dX8_takeOff_79 : decode cX8_takeOff 79 = .ok (.iload_n 3, 1) := by decide +kernel
theorem dX8_takeOff_80 : decode cX8_takeOff 80 = .ok (.if_icmp .gt 36, 3) := by decide +kernel
theorem dX8_takeOff_83 : decode cX8_takeOff 83 = .ok (.aload_n 0, 1) := by decide +kernel
theorem dX8_takeOff_84 : decode cX8_takeOff 84 = .ok (.getfield 28, 3) := by decide +kernel
theorem dX8_takeOff_87 : decode cX8_takeOff 87 = .ok (.iload 4, 2) := by decide +kernel
theorem dX8_takeOff_89 : decode cX8_takeOff 89 = .ok (.aload_n 0, 1) := by decide +kernel
theorem dX8_takeOff_90 : decode cX8_takeOff 90 = .ok (.iload_n 1, 1) := by decide +kernel
theorem dX8_takeOff_91 : decode cX8_takeOff 91 = .ok (.iload_n 2, 1) := by decide +kernel
theorem dX8_takeOff_92 : decode cX8_takeOff 92 = .ok (.iload 4, 2) := by decide +kernel
theorem dX8_takeOff_94 : decode cX8_takeOff 94 = .ok (.isub, 1) := by decide +kernel
theorem dX8_takeOff_95 : decode cX8_takeOff 95 = .ok (.invokevirtual 255, 3) := by decide +kernel
theorem dX8_takeOff_98 : decode cX8_takeOff 98 = .ok (.invokevirtual 258, 3) := by decide +kernel
theorem dX8_takeOff_101 : decode cX8_takeOff 101 = .ok (.aload_n 0, 1) := by decide +kernel
theorem dX8_takeOff_102 : decode cX8_takeOff 102 = .ok (.getfield 22, 3) := by decide +kernel
theorem dX8_takeOff_105 : decode cX8_takeOff 105 = .ok (.iconst 1, 1) := by decide +kernel
theorem dX8_takeOff_106 : decode cX8_takeOff 106 = .ok (.invokevirtual 205, 3) := by decide +kernel
theorem dX8_takeOff_109 : decode cX8_takeOff 109 = .ok (.pop, 1) := by decide +kernel
theorem dX8_takeOff_110 : decode cX8_takeOff 110 = .ok (.iinc 4 1, 3) := by decide +kernel
theorem dX8_takeOff_113 : decode cX8_takeOff 113 = .ok (.goto (-36), 3) := by decide +kernel
theorem dX8_takeOff_116 : decode cX8_takeOff 116 = .ok (.aload_n 0, 1) := by decide +kernel
theorem dX8_takeOff_117 : decode cX8_takeOff 117 = .ok (.getfield 28, 3) := by decide +kernel
theorem dX8_takeOff_120 : decode cX8_takeOff 120 = .ok (.getfield 261, 3) := by decide +kernel
theorem dX8_takeOff_123 : decode cX8_takeOff 123 = .ok (.ireturn, 1) := by decide +kernel
theorem dX8_shovels_0 : decode cX8_shovels 0 = .ok (.iload_n 1, 1) := by decide +kernel
theorem dX8_shovels_1 : decode cX8_shovels 1 = .ok (.invokestatic 196, 3) := by decide +kernel
theorem dX8_shovels_4 : decode cX8_shovels 4 = .ok (.ifCond .ne 9, 3) := by decide +kernel
theorem dX8_shovels_7 : decode cX8_shovels 7 = .ok (.aload_n 0, 1) := by decide +kernel
theorem dX8_shovels_8 : decode cX8_shovels 8 = .ok (.iconst 0, 1) := by decide +kernel
theorem dX8_shovels_9 : decode cX8_shovels 9 = .ok (.invokevirtual 67, 3) := by decide +kernel
theorem dX8_shovels_12 : decode cX8_shovels 12 = .ok (.ireturn, 1) := by decide +kernel
theorem dX8_shovels_13 : decode cX8_shovels 13 = .ok (.aload_n 0, 1) := by decide +kernel
theorem dX8_shovels_14 : decode cX8_shovels 14 = .ok (.iload_n 1, 1) := by decide +kernel
theorem dX8_shovels_15 : decode cX8_shovels 15 = .ok (.invokevirtual 199, 3) := by decide +kernel
theorem dX8_shovels_18 : decode cX8_shovels 18 = .ok (.ifCond .eq 9, 3) := by decide +kernel
theorem dX8_shovels_21 : decode cX8_shovels 21 = .ok (.aload_n 0, 1) := by decide +kernel
theorem dX8_shovels_22 : decode cX8_shovels 22 = .ok (.iconst 4, 1) := by decide +kernel
theorem dX8_shovels_23 : decode cX8_shovels 23 = .ok (.invokevirtual 67, 3) := by decide +kernel
theorem dX8_shovels_26 : decode cX8_shovels 26 = .ok (.ireturn, 1) := by decide +kernel
theorem dX8_shovels_27 : decode cX8_shovels 27 = .ok (.aload_n 0, 1) := by decide +kernel
theorem dX8_shovels_28 : decode cX8_shovels 28 = .ok (.getfield 28, 3) := by decide +kernel
theorem dX8_shovels_31 : decode cX8_shovels 31 = .ok (.invokevirtual 247, 3) := by decide +kernel
theorem dX8_shovels_34 : decode cX8_shovels 34 = .ok (.iconst 0, 1) := by decide +kernel
theorem dX8_shovels_35 : decode cX8_shovels 35 = .ok (.istore_n 2, 1) := by decide +kernel
theorem dX8_shovels_36 : decode cX8_shovels 36 = .ok (.iload_n 2, 1) := by decide +kernel
theorem dX8_shovels_37 : decode cX8_shovels 37 = .ok (.bipush 9, 2) := by decide +kernel
theorem dX8_shovels_39 : decode cX8_shovels 39 = .ok (.if_icmp .gt 44, 3) := by decide +kernel
theorem dX8_shovels_42 : decode cX8_shovels 42 = .ok (.aload_n 0, 1) := by decide +kernel
theorem dX8_shovels_43 : decode cX8_shovels 43 = .ok (.getfield 19, 3) := by decide +kernel
theorem dX8_shovels_46 : decode cX8_shovels 46 = .ok (.aload_n 0, 1) := by decide +kernel
theorem dX8_shovels_47 : decode cX8_shovels 47 = .ok (.getfield 10, 3) := by decide +kernel
theorem dX8_shovels_50 : decode cX8_shovels 50 = .ok (.invokevirtual 227, 3) := by decide +kernel
theorem dX8_shovels_53 : decode cX8_shovels 53 = .ok (.aload_n 0, 1) := by decide +kernel
theorem dX8_shovels_54 : decode cX8_shovels 54 = .ok (.getfield 19, 3) := by decide +kernel
theorem dX8_shovels_57 : decode cX8_shovels 57 = .ok (.iload_n 2, 1) := by decide +kernel
theorem dX8_shovels_58 : decode cX8_shovels 58 = .ok (.invokevirtual 144, 3) := by decide +kernel
theorem dX8_shovels_61 : decode cX8_shovels 61 = .ok (.aload_n 0, 1) := by decide +kernel
theorem dX8_shovels_62 : decode cX8_shovels 62 = .ok (.getfield 28, 3) := by decide +kernel
theorem dX8_shovels_65 : decode cX8_shovels 65 = .ok (.iload_n 2, 1) := by decide +kernel
theorem dX8_shovels_66 : decode cX8_shovels 66 = .ok (.aload_n 0, 1) := by decide +kernel
theorem dX8_shovels_67 : decode cX8_shovels 67 = .ok (.getfield 19, 3) := by decide +kernel
theorem dX8_shovels_70 : decode cX8_shovels 70 = .ok (.iload_n 1, 1) := by decide +kernel
theorem dX8_shovels_71 : decode cX8_shovels 71 = .ok (.invokevirtual 205, 3) := by decide +kernel
theorem dX8_shovels_74 : decode cX8_shovels 74 = .ok (.invokevirtual 258, 3) := by decide +kernel
theorem dX8_shovels_77 : decode cX8_shovels 77 = .ok (.iinc 2 1, 3) := by decide +kernel
theorem dX8_shovels_80 : decode cX8_shovels 80 = .ok (.goto (-44), 3) := by decide +kernel
theorem dX8_shovels_83 : decode cX8_shovels 83 = .ok (.aload_n 0, 1) := by decide +kernel
theorem dX8_shovels_84 : decode cX8_shovels 84 = .ok (.getfield 28, 3) := by decide +kernel
theorem dX8_shovels_87 : decode cX8_shovels 87 = .ok (.getfield 261, 3) := by decide +kernel
theorem dX8_shovels_90 : decode cX8_shovels 90 = .ok (.ireturn, 1) := by decide +kernel
theorem dX8_corner_0 : decode cX8_corner 0 = .ok (.iload_n 1, 1) := by decide +kernel
theorem dX8_corner_1 : decode cX8_corner 1 = .ok (.invokestatic 196, 3) := by decide +kernel
theorem dX8_corner_4 : decode cX8_corner 4 = .ok (.ifCond .ne 9, 3) := by decide +kernel
theorem dX8_corner_7 : decode cX8_corner 7 = .ok (.aload_n 0, 1) := by decide +kernel
theorem dX8_corner_8 : decode cX8_corner 8 = .ok (.iconst 0, 1) := by decide +kernel
theorem dX8_corner_9 : decode cX8_corner 9 = .ok (.invokevirtual 67, 3) := by decide +kernel
theorem dX8_corner_12 : decode cX8_corner 12 = .ok (.ireturn, 1) := by decide +kernel
theorem dX8_corner_13 : decode cX8_corner 13 = .ok (.aload_n 0, 1) := by decide +kernel
theorem dX8_corner_14 : decode cX8_corner 14 = .ok (.getfield 10, 3) := by decide +kernel
theorem dX8_corner_17 : decode cX8_corner 17 = .ok (.getfield 165, 3) := by decide +kernel
theorem dX8_corner_20 : decode cX8_corner 20 = .ok (.ifCond .gt 11, 3) := by decide +kernel
theorem dX8_corner_23 : decode cX8_corner 23 = .ok (.aload_n 0, 1) := by decide +kernel
theorem dX8_corner_24 : decode cX8_corner 24 = .ok (.iload_n 1, 1) := by decide +kernel
theorem dX8_corner_25 : decode cX8_corner 25 = .ok (.invokevirtual 199, 3) := by decide +kernel
theorem dX8_corner_28 : decode cX8_corner 28 = .ok (.ifCond .eq 9, 3) := by decide +kernel
theorem dX8_corner_31 : decode cX8_corner 31 = .ok (.aload_n 0, 1) := by decide +kernel
theorem dX8_corner_32 : decode cX8_corner 32 = .ok (.iconst 4, 1) := by decide +kernel
theorem dX8_corner_33 : decode cX8_corner 33 = .ok (.invokevirtual 67, 3) := by decide +kernel
theorem dX8_corner_36 : decode cX8_corner 36 = .ok (.ireturn, 1) := by decide +kernel
theorem dX8_corner_37 : decode cX8_corner 37 = .ok (.aload_n 0, 1) := by decide +kernel
theorem dX8_corner_38 : decode cX8_corner 38 = .ok (.getfield 28, 3) := by decide +kernel
theorem dX8_corner_41 : decode cX8_corner 41 = .ok (.invokevirtual 247, 3) := by decide +kernel
theorem dX8_corner_44 : decode cX8_corner 44 = .ok (.iconst 0, 1) := by decide +kernel
theorem dX8_corner_45 : decode cX8_corner 45 = .ok (.istore_n 2, 1) := by decide +kernel
theorem dX8_corner_46 : decode cX8_corner 46 = .ok (.iload_n 2, 1) := by decide +kernel
theorem dX8_corner_47 : decode cX8_corner 47 = .ok (.iconst 3, 1) := by decide +kernel
theorem dX8_corner_48 : decode cX8_corner 48 = .ok (.if_icmp .gt 44, 3) := by decide +kernel
theorem dX8_corner_51 : decode cX8_corner 51 = .ok (.aload_n 0, 1) := by decide +kernel
theorem dX8_corner_52 : decode cX8_corner 52 = .ok (.getfield 19, 3) := by decide +kernel
theorem dX8_corner_55 : decode cX8_corner 55 = .ok (.aload_n 0, 1) := by decide +kernel
theorem dX8_corner_56 : decode cX8_corner 56 = .ok (.getfield 10, 3) := by decide +kernel
theorem dX8_corner_59 : decode cX8_corner 59 = .ok (.invokevirtual 227, 3) := by decide +kernel
theorem dX8_corner_62 : decode cX8_corner 62 = .ok (.aload_n 0, 1) := by decide +kernel
theorem dX8_corner_63 : decode cX8_corner 63 = .ok (.getfield 19, 3) := by decide +kernel
theorem dX8_corner_66 : decode cX8_corner 66 = .ok (.iload_n 2, 1) := by decide +kernel
theorem dX8_corner_67 : decode cX8_corner 67 = .ok (.invokevirtual 168, 3) := by decide +kernel
theorem dX8_corner_70 : decode cX8_corner 70 = .ok (.aload_n 0, 1) := by decide +kernel
theorem dX8_corner_71 : decode cX8_corner 71 = .ok (.getfield 28, 3) := by decide +kernel
theorem dX8_corner_74 : decode cX8_corner 74 = .ok (.iload_n 2, 1) := by decide +kernel
theorem dX8_corner_75 : decode cX8_corner 75 = .ok (.aload_n 0, 1) := by decide +kernel
theorem dX8_corner_76 : decode cX8_corner 76 = .ok (.getfield 19, 3) := by decide +kernel
theorem dX8_corner_79 : decode cX8_corner 79 = .ok (.iload_n 1, 1) := by decide +kernel
theorem dX8_corner_80 : decode cX8_corner 80 = .ok (.invokevirtual 205, 3) := by decide +kernel
theorem dX8_corner_83 : decode cX8_corner 83 = .ok (.invokevirtual 258, 3) := by decide +kernel
theorem dX8_corner_86 : decode cX8_corner 86 = .ok (.iinc 2 1, 3) := by decide +kernel
theorem dX8_corner_89 : decode cX8_corner 89 = .ok (.goto (-43), 3) := by decide +kernel
theorem dX8_corner_92 : decode cX8_corner 92 = .ok (.aload_n 0, 1) := by decide +kernel
theorem dX8_corner_93 : decode cX8_corner 93 = .ok (.getfield 28, 3) := by decide +kernel
theorem dX8_corner_96 : decode cX8_corner 96 = .ok (.getfield 261, 3) := by decide +kernel
theorem dX8_corner_99 : decode cX8_corner 99 = .ok (.ireturn, 1) := by decide +kernel
theorem dX8_two_0 : decode cX8_two 0 = .ok (.iload_n 1, 1) := by decide +kernel
theorem dX8_two_1 : decode cX8_two 1 = .ok (.iconst 1, 1) := by decide +kernel
theorem dX8_two_2 : decode cX8_two 2 = .ok (.bipush 60, 2) := by decide +kernel
theorem dX8_two_4 : decode cX8_two 4 = .ok (.invokestatic 63, 3) := by decide +kernel
theorem dX8_two_7 : decode cX8_two 7 = .ok (.ifCond .eq 15, 3) := by decide +kernel
theorem dX8_two_10 : decode cX8_two 10 = .ok (.iload_n 2, 1) := by decide +kernel
theorem dX8_two_11 : decode cX8_two 11 = .ok (.invokestatic 196, 3) := by decide +kernel
theorem dX8_two_14 : decode cX8_two 14 = .ok (.ifCond .eq 8, 3) := by decide +kernel
theorem dX8_two_17 : decode cX8_two 17 = .ok (.iload_n 2, 1) := by decide +kernel
theorem dX8_two_18 : decode cX8_two 18 = .ok (.iload_n 1, 1) := by decide +kernel
theorem dX8_two_19 : decode cX8_two 19 = .ok (.if_icmp .gt 9, 3) := by decide +kernel
theorem dX8_two_22 : decode cX8_two 22 = .ok (.aload_n 0, 1) := by decide +kernel
theorem dX8_two_23 : decode cX8_two 23 = .ok (.iconst 0, 1) := by decide +kernel
theorem dX8_two_24 : decode cX8_two 24 = .ok (.invokevirtual 67, 3) := by decide +kernel
theorem dX8_two_27 : decode cX8_two 27 = .ok (.ireturn, 1) := by decide +kernel
theorem dX8_two_28 : decode cX8_two 28 = .ok (.aload_n 0, 1) := by decide +kernel
theorem dX8_two_29 : decode cX8_two 29 = .ok (.getfield 10, 3) := by decide +kernel
theorem dX8_two_32 : decode cX8_two 32 = .ok (.getfield 165, 3) := by decide +kernel
theorem dX8_two_35 : decode cX8_two 35 = .ok (.ifCond .gt 11, 3) := by decide +kernel
theorem dX8_two_38 : decode cX8_two 38 = .ok (.aload_n 0, 1) := by decide +kernel
theorem dX8_two_39 : decode cX8_two 39 = .ok (.iload_n 2, 1) := by decide +kernel
theorem dX8_two_40 : decode cX8_two 40 = .ok (.invokevirtual 199, 3) := by decide +kernel
theorem dX8_two_43 : decode cX8_two 43 = .ok (.ifCond .eq 9, 3) := by decide +kernel
theorem dX8_two_46 : decode cX8_two 46 = .ok (.aload_n 0, 1) := by decide +kernel
theorem dX8_two_47 : decode cX8_two 47 = .ok (.iconst 4, 1) := by decide +kernel
theorem dX8_two_48 : decode cX8_two 48 = .ok (.invokevirtual 67, 3) := by decide +kernel
theorem dX8_two_51 : decode cX8_two 51 = .ok (.ireturn, 1) := by decide +kernel
theorem dX8_two_52 : decode cX8_two 52 = .ok (.aload_n 0, 1) := by decide +kernel
theorem dX8_two_53 : decode cX8_two 53 = .ok (.getfield 28, 3) := by decide +kernel
theorem dX8_two_56 : decode cX8_two 56 = .ok (.invokevirtual 247, 3) := by decide +kernel
theorem dX8_two_59 : decode cX8_two 59 = .ok (.iconst 0, 1) := by decide +kernel
theorem dX8_two_60 : decode cX8_two 60 = .ok (.istore_n 3, 1) := by decide +kernel
theorem dX8_two_61 : decode cX8_two 61 = .ok (.iload_n 3, 1) := by decide +kernel
theorem dX8_two_62 : decode cX8_two 62 = .ok (.iconst 3, 1) := by decide +kernel
theorem dX8_two_63 : decode cX8_two 63 = .ok (.if_icmp .gt 79, 3) := by decide +kernel
theorem dX8_two_66 : decode cX8_two 66 = .ok (.aload_n 0, 1) := by decide +kernel
theorem dX8_two_67 : decode cX8_two 67 = .ok (.getfield 22, 3) := by decide +kernel
theorem dX8_two_70 : decode cX8_two 70 = .ok (.aload_n 0, 1) := by decide +kernel
theorem dX8_two_71 : decode cX8_two 71 = .ok (.getfield 10, 3) := by decide +kernel
theorem dX8_two_74 : decode cX8_two 74 = .ok (.invokevirtual 227, 3) := by decide +kernel
theorem dX8_two_77 : decode cX8_two 77 = .ok (.aload_n 0, 1) := by decide +kernel
theorem dX8_two_78 : decode cX8_two 78 = .ok (.getfield 22, 3) := by decide +kernel
theorem dX8_two_81 : decode cX8_two 81 = .ok (.iload_n 3, 1) := by decide +kernel
theorem dX8_two_82 : decode cX8_two 82 = .ok (.invokevirtual 168, 3) := by decide +kernel
theorem dX8_two_85 : decode cX8_two 85 = .ok (.aload_n 0, 1) := by decide +kernel
theorem dX8_two_86 : decode cX8_two 86 = .ok (.getfield 22, 3) := by decide +kernel
theorem dX8_two_89 : decode cX8_two 89 = .ok (.iload_n 1, 1) := by decide +kernel
theorem dX8_two_90 : decode cX8_two 90 = .ok (.invokevirtual 205, 3) := by decide +kernel
theorem dX8_two_93 : decode cX8_two 93 = .ok (.istore 4, 2) := by decide +kernel
theorem dX8_two_95 : decode cX8_two 95 = .ok (.iconst 0, 1) := by decide +kernel
theorem dX8_two_96 : decode cX8_two 96 = .ok (.istore 5, 2) := by decide +kernel
theorem dX8_two_98 : decode cX8_two 98 = .ok (.iload 5, 2) := by decide +kernel
theorem dX8_two_100 : decode cX8_two 100 = .ok (.iconst 3, 1) := by decide +kernel
theorem dX8_two_101 : decode cX8_two 101 = .ok (.if_icmp .gt 35, 3) := by decide +kernel
theorem dX8_two_104 : decode cX8_two 104 = .ok (.aload_n 0, 1) := by decide +kernel
theorem dX8_two_105 : decode cX8_two 105 = .ok (.getfield 28, 3) := by decide +kernel
theorem dX8_two_108 : decode cX8_two 108 = .ok (.bipush 10, 2) := by decide +kernel
theorem dX8_two_110 : decode cX8_two 110 = .ok (.iload_n 3, 1) := by decide +kernel
theorem dX8_two_111 : decode cX8_two 111 = .ok (.imul, 1) := by decide +kernel
theorem dX8_two_112 : decode cX8_two 112 = .ok (.iload 5, 2) := by decide +kernel
theorem dX8_two_114 : decode cX8_two 114 = .ok (.iadd, 1) := by decide +kernel
theorem dX8_two_115 : decode cX8_two 115 = .ok (.iload 4, 2) := by decide +kernel
theorem dX8_two_117 : decode cX8_two 117 = .ok (.aload_n 0, 1) := by decide +kernel
theorem dX8_two_118 : decode cX8_two 118 = .ok (.iload 5, 2) := by decide +kernel
theorem dX8_two_120 : decode cX8_two 120 = .ok (.iload_n 2, 1) := by decide +kernel
theorem dX8_two_121 : decode cX8_two 121 = .ok (.iload_n 1, 1) := by decide +kernel
theorem dX8_two_122 : decode cX8_two 122 = .ok (.isub, 1) := by decide +kernel
theorem dX8_two_123 : decode cX8_two 123 = .ok (.invokevirtual 264, 3) := by decide +kernel
theorem dX8_two_126 : decode cX8_two 126 = .ok (.iadd, 1) := by decide +kernel
theorem dX8_two_127 : decode cX8_two 127 = .ok (.invokevirtual 258, 3) := by decide +kernel
theorem dX8_two_130 : decode cX8_two 130 = .ok (.iinc 5 1, 3) := by decide +kernel
theorem dX8_two_133 : decode cX8_two 133 = .ok (.goto (-35), 3) := by decide +kernel
theorem dX8_two_136 : decode cX8_two 136 = .ok (.iinc 3 1, 3) := by decide +kernel
theorem dX8_two_139 : decode cX8_two 139 = .ok (.goto (-78), 3) := by decide +kernel
theorem dX8_two_142 : decode cX8_two 142 = .ok (.aload_n 0, 1) := by decide +kernel
theorem dX8_two_143 : decode cX8_two 143 = .ok (.getfield 28, 3) := by decide +kernel
theorem dX8_two_146 : decode cX8_two 146 = .ok (.getfield 261, 3) := by decide +kernel
theorem dX8_two_149 : decode cX8_two 149 = .ok (.ireturn, 1) := by decide +kernel
theorem dX8_price_0 : decode cX8_price 0 = .ok (.iload_n 1, 1) := by decide +kernel
theorem dX8_price_1 : decode cX8_price 1 = .ok (.invokestatic 196, 3) := by decide +kernel
theorem dX8_price_4 : decode cX8_price 4 = .ok (.ifCond .ne 9, 3) := by decide +kernel
theorem dX8_price_7 : decode cX8_price 7 = .ok (.aload_n 0, 1) := by decide +kernel
theorem dX8_price_8 : decode cX8_price 8 = .ok (.iconst 0, 1) := by decide +kernel
theorem dX8_price_9 : decode cX8_price 9 = .ok (.invokevirtual 67, 3) := by decide +kernel
theorem dX8_price_12 : decode cX8_price 12 = .ok (.ireturn, 1) := by decide +kernel
theorem dX8_price_13 : decode cX8_price 13 = .ok (.aload_n 0, 1) := by decide +kernel
theorem dX8_price_14 : decode cX8_price 14 = .ok (.iload_n 1, 1) := by decide +kernel
theorem dX8_price_15 : decode cX8_price 15 = .ok (.invokevirtual 199, 3) := by decide +kernel
theorem dX8_price_18 : decode cX8_price 18 = .ok (.ifCond .eq 9, 3) := by decide +kernel
theorem dX8_price_21 : decode cX8_price 21 = .ok (.aload_n 0, 1) := by decide +kernel
theorem dX8_price_22 : decode cX8_price 22 = .ok (.iconst 4, 1) := by decide +kernel
theorem dX8_price_23 : decode cX8_price 23 = .ok (.invokevirtual 67, 3) := by decide +kernel
theorem dX8_price_26 : decode cX8_price 26 = .ok (.ireturn, 1) := by decide +kernel
theorem dX8_price_27 : decode cX8_price 27 = .ok (.aload_n 0, 1) := by decide +kernel
theorem dX8_price_28 : decode cX8_price 28 = .ok (.getfield 28, 3) := by decide +kernel
theorem dX8_price_31 : decode cX8_price 31 = .ok (.invokevirtual 247, 3) := by decide +kernel
theorem dX8_price_34 : decode cX8_price 34 = .ok (.iconst 0, 1) := by decide +kernel
theorem dX8_price_35 : decode cX8_price 35 = .ok (.istore_n 2, 1) := by decide +kernel
theorem dX8_price_36 : decode cX8_price 36 = .ok (.iload_n 2, 1) := by decide +kernel
theorem dX8_price_37 : decode cX8_price 37 = .ok (.bipush 99, 2) := by decide +kernel
theorem dX8_price_39 : decode cX8_price 39 = .ok (.if_icmp .gt 44, 3) := by decide +kernel
theorem dX8_price_42 : decode cX8_price 42 = .ok (.aload_n 0, 1) := by decide +kernel
theorem dX8_price_43 : decode cX8_price 43 = .ok (.getfield 19, 3) := by decide +kernel
theorem dX8_price_46 : decode cX8_price 46 = .ok (.aload_n 0, 1) := by decide +kernel
theorem dX8_price_47 : decode cX8_price 47 = .ok (.getfield 10, 3) := by decide +kernel
theorem dX8_price_50 : decode cX8_price 50 = .ok (.invokevirtual 227, 3) := by decide +kernel
theorem dX8_price_53 : decode cX8_price 53 = .ok (.aload_n 0, 1) := by decide +kernel
theorem dX8_price_54 : decode cX8_price 54 = .ok (.getfield 19, 3) := by decide +kernel
theorem dX8_price_57 : decode cX8_price 57 = .ok (.iload_n 2, 1) := by decide +kernel
theorem dX8_price_58 : decode cX8_price 58 = .ok (.putfield 111, 3) := by decide +kernel
theorem dX8_price_61 : decode cX8_price 61 = .ok (.aload_n 0, 1) := by decide +kernel
theorem dX8_price_62 : decode cX8_price 62 = .ok (.getfield 28, 3) := by decide +kernel
theorem dX8_price_65 : decode cX8_price 65 = .ok (.iload_n 2, 1) := by decide +kernel
theorem dX8_price_66 : decode cX8_price 66 = .ok (.aload_n 0, 1) := by decide +kernel
theorem dX8_price_67 : decode cX8_price 67 = .ok (.getfield 19, 3) := by decide +kernel
theorem dX8_price_70 : decode cX8_price 70 = .ok (.iload_n 1, 1) := by decide +kernel
theorem dX8_price_71 : decode cX8_price 71 = .ok (.invokevirtual 205, 3) := by decide +kernel
theorem dX8_price_74 : decode cX8_price 74 = .ok (.invokevirtual 258, 3) := by decide +kernel
theorem dX8_price_77 : decode cX8_price 77 = .ok (.iinc 2 1, 3) := by decide +kernel
theorem dX8_price_80 : decode cX8_price 80 = .ok (.goto (-44), 3) := by decide +kernel
theorem dX8_price_83 : decode cX8_price 83 = .ok (.aload_n 0, 1) := by decide +kernel
theorem dX8_price_84 : decode cX8_price 84 = .ok (.getfield 28, 3) := by decide +kernel
theorem dX8_price_87 : decode cX8_price 87 = .ok (.getfield 261, 3) := by decide +kernel
theorem dX8_price_90 : decode cX8_price 90 = .ok (.ireturn, 1) := by decide +kernel
theorem dX8_kindFor_0 : decode cX8_kindFor 0 = .ok (.aload_n 0, 1) := by decide +kernel
theorem dX8_kindFor_1 : decode cX8_kindFor 1 = .ok (.iload_n 1, 1) := by decide +kernel
theorem dX8_kindFor_2 : decode cX8_kindFor 2 = .ok (.invokevirtual 84, 3) := by decide +kernel
theorem dX8_kindFor_5 : decode cX8_kindFor 5 = .ok (.ifCond .eq 10, 3) := by decide +kernel
theorem dX8_kindFor_8 : decode cX8_kindFor 8 = .ok (.iload_n 2, 1) := by decide +kernel
theorem dX8_kindFor_9 : decode cX8_kindFor 9 = .ok (.invokestatic 196, 3) := by decide +kernel
theorem dX8_kindFor_12 : decode cX8_kindFor 12 = .ok (.ifCond .ne 9, 3) := by decide +kernel
theorem dX8_kindFor_15 : decode cX8_kindFor 15 = .ok (.aload_n 0, 1) := by decide +kernel
theorem dX8_kindFor_16 : decode cX8_kindFor 16 = .ok (.iconst 0, 1) := by decide +kernel
theorem dX8_kindFor_17 : decode cX8_kindFor 17 = .ok (.invokevirtual 67, 3) := by decide +kernel
theorem dX8_kindFor_20 : decode cX8_kindFor 20 = .ok (.ireturn, 1) := by decide +kernel
theorem dX8_kindFor_21 : decode cX8_kindFor 21 = .ok (.aload_n 0, 1) := by decide +kernel
theorem dX8_kindFor_22 : decode cX8_kindFor 22 = .ok (.iload_n 2, 1) := by decide +kernel
theorem dX8_kindFor_23 : decode cX8_kindFor 23 = .ok (.invokevirtual 199, 3) := by decide +kernel
theorem dX8_kindFor_26 : decode cX8_kindFor 26 = .ok (.ifCond .eq 9, 3) := by decide +kernel
theorem dX8_kindFor_29 : decode cX8_kindFor 29 = .ok (.aload_n 0, 1) := by decide +kernel
theorem dX8_kindFor_30 : decode cX8_kindFor 30 = .ok (.iconst 4, 1) := by decide +kernel
theorem dX8_kindFor_31 : decode cX8_kindFor 31 = .ok (.invokevirtual 67, 3) := by decide +kernel
theorem dX8_kindFor_34 : decode cX8_kindFor 34 = .ok (.ireturn, 1) := by decide +kernel
theorem dX8_kindFor_35 : decode cX8_kindFor 35 = .ok (.aload_n 0, 1) := by decide +kernel
theorem dX8_kindFor_36 : decode cX8_kindFor 36 = .ok (.getfield 28, 3) := by decide +kernel
theorem dX8_kindFor_39 : decode cX8_kindFor 39 = .ok (.invokevirtual 247, 3) := by decide +kernel
theorem dX8_kindFor_42 : decode cX8_kindFor 42 = .ok (.iconst 0, 1) := by decide +kernel
theorem dX8_kindFor_43 : decode cX8_kindFor 43 = .ok (.istore_n 3, 1) := by decide +kernel
theorem dX8_kindFor_44 : decode cX8_kindFor 44 = .ok (.iload_n 3, 1) := by decide +kernel
theorem dX8_kindFor_45 : decode cX8_kindFor 45 = .ok (.bipush 6, 2) := by decide +kernel
theorem dX8_kindFor_47 : decode cX8_kindFor 47 = .ok (.if_icmp .gt 49, 3) := by decide +kernel
theorem dX8_kindFor_50 : decode cX8_kindFor 50 = .ok (.aload_n 0, 1) := by decide +kernel
theorem dX8_kindFor_51 : decode cX8_kindFor 51 = .ok (.getfield 19, 3) := by decide +kernel
theorem dX8_kindFor_54 : decode cX8_kindFor 54 = .ok (.aload_n 0, 1) := by decide +kernel
theorem dX8_kindFor_55 : decode cX8_kindFor 55 = .ok (.getfield 10, 3) := by decide +kernel
theorem dX8_kindFor_58 : decode cX8_kindFor 58 = .ok (.invokevirtual 227, 3) := by decide +kernel
theorem dX8_kindFor_61 : decode cX8_kindFor 61 = .ok (.aload_n 0, 1) := by decide +kernel
theorem dX8_kindFor_62 : decode cX8_kindFor 62 = .ok (.getfield 19, 3) := by decide +kernel
theorem dX8_kindFor_65 : decode cX8_kindFor 65 = .ok (.getfield 71, 3) := by decide +kernel
theorem dX8_kindFor_68 : decode cX8_kindFor 68 = .ok (.getfield 88, 3) := by decide +kernel
theorem dX8_kindFor_71 : decode cX8_kindFor 71 = .ok (.iload_n 1, 1) := by decide +kernel
theorem dX8_kindFor_72 : decode cX8_kindFor 72 = .ok (.iload_n 3, 1) := by decide +kernel
theorem dX8_kindFor_73 : decode cX8_kindFor 73 = .ok (.iastore, 1) := by decide +kernel
theorem dX8_kindFor_74 : decode cX8_kindFor 74 = .ok (.aload_n 0, 1) := by decide +kernel
theorem dX8_kindFor_75 : decode cX8_kindFor 75 = .ok (.getfield 28, 3) := by decide +kernel
theorem dX8_kindFor_78 : decode cX8_kindFor 78 = .ok (.iload_n 3, 1) := by decide +kernel
theorem dX8_kindFor_79 : decode cX8_kindFor 79 = .ok (.aload_n 0, 1) := by decide +kernel
theorem dX8_kindFor_80 : decode cX8_kindFor 80 = .ok (.getfield 19, 3) := by decide +kernel
theorem dX8_kindFor_83 : decode cX8_kindFor 83 = .ok (.iload_n 2, 1) := by decide +kernel
theorem dX8_kindFor_84 : decode cX8_kindFor 84 = .ok (.invokevirtual 205, 3) := by decide +kernel
theorem dX8_kindFor_87 : decode cX8_kindFor 87 = .ok (.invokevirtual 258, 3) := by decide +kernel
theorem dX8_kindFor_90 : decode cX8_kindFor 90 = .ok (.iinc 3 1, 3) := by decide +kernel
theorem dX8_kindFor_93 : decode cX8_kindFor 93 = .ok (.goto (-49), 3) := by decide +kernel
theorem dX8_kindFor_96 : decode cX8_kindFor 96 = .ok (.aload_n 0, 1) := by decide +kernel
theorem dX8_kindFor_97 : decode cX8_kindFor 97 = .ok (.getfield 28, 3) := by decide +kernel
theorem dX8_kindFor_100 : decode cX8_kindFor 100 = .ok (.getfield 261, 3) := by decide +kernel
theorem dX8_kindFor_103 : decode cX8_kindFor 103 = .ok (.ireturn, 1) := by decide +kernel
theorem dX8_heatFor_0 : decode cX8_heatFor 0 = .ok (.aload_n 0, 1) := by decide +kernel
theorem dX8_heatFor_1 : decode cX8_heatFor 1 = .ok (.iload_n 1, 1) := by decide +kernel
theorem dX8_heatFor_2 : decode cX8_heatFor 2 = .ok (.invokevirtual 84, 3) := by decide +kernel
theorem dX8_heatFor_5 : decode cX8_heatFor 5 = .ok (.ifCond .eq 10, 3) := by decide +kernel
theorem dX8_heatFor_8 : decode cX8_heatFor 8 = .ok (.iload_n 2, 1) := by decide +kernel
theorem dX8_heatFor_9 : decode cX8_heatFor 9 = .ok (.invokestatic 196, 3) := by decide +kernel
theorem dX8_heatFor_12 : decode cX8_heatFor 12 = .ok (.ifCond .ne 9, 3) := by decide +kernel
theorem dX8_heatFor_15 : decode cX8_heatFor 15 = .ok (.aload_n 0, 1) := by decide +kernel
theorem dX8_heatFor_16 : decode cX8_heatFor 16 = .ok (.iconst 0, 1) := by decide +kernel
theorem dX8_heatFor_17 : decode cX8_heatFor 17 = .ok (.invokevirtual 67, 3) := by decide +kernel
theorem dX8_heatFor_20 : decode cX8_heatFor 20 = .ok (.ireturn, 1) := by decide +kernel
theorem dX8_heatFor_21 : decode cX8_heatFor 21 = .ok (.aload_n 0, 1) := by decide +kernel
theorem dX8_heatFor_22 : decode cX8_heatFor 22 = .ok (.getfield 10, 3) := by decide +kernel
theorem dX8_heatFor_25 : decode cX8_heatFor 25 = .ok (.getfield 71, 3) := by decide +kernel
theorem dX8_heatFor_28 : decode cX8_heatFor 28 = .ok (.iload_n 1, 1) := by decide +kernel
theorem dX8_heatFor_29 : decode cX8_heatFor 29 = .ok (.invokevirtual 244, 3) := by decide +kernel
theorem dX8_heatFor_32 : decode cX8_heatFor 32 = .ok (.ifCond .eq 11, 3) := by decide +kernel
theorem dX8_heatFor_35 : decode cX8_heatFor 35 = .ok (.aload_n 0, 1) := by decide +kernel
theorem dX8_heatFor_36 : decode cX8_heatFor 36 = .ok (.iload_n 2, 1) := by decide +kernel
theorem dX8_heatFor_37 : decode cX8_heatFor 37 = .ok (.invokevirtual 199, 3) := by decide +kernel
theorem dX8_heatFor_40 : decode cX8_heatFor 40 = .ok (.ifCond .eq 9, 3) := by decide +kernel
theorem dX8_heatFor_43 : decode cX8_heatFor 43 = .ok (.aload_n 0, 1) := by decide +kernel
theorem dX8_heatFor_44 : decode cX8_heatFor 44 = .ok (.iconst 4, 1) := by decide +kernel
theorem dX8_heatFor_45 : decode cX8_heatFor 45 = .ok (.invokevirtual 67, 3) := by decide +kernel
theorem dX8_heatFor_48 : decode cX8_heatFor 48 = .ok (.ireturn, 1) := by decide +kernel
theorem dX8_heatFor_49 : decode cX8_heatFor 49 = .ok (.iconst 0, 1) := by decide +kernel
theorem dX8_heatFor_50 : decode cX8_heatFor 50 = .ok (.istore_n 3, 1) := by decide +kernel
theorem dX8_heatFor_51 : decode cX8_heatFor 51 = .ok (.iload_n 3, 1) := by decide +kernel
theorem dX8_heatFor_52 : decode cX8_heatFor 52 = .ok (.bipush 20, 2) := by decide +kernel
theorem dX8_heatFor_54 : decode cX8_heatFor 54 = .ok (.if_icmp .gt 39, 3) := by decide +kernel
theorem dX8_heatFor_57 : decode cX8_heatFor 57 = .ok (.aload_n 0, 1) := by decide +kernel
theorem dX8_heatFor_58 : decode cX8_heatFor 58 = .ok (.getfield 19, 3) := by decide +kernel
theorem dX8_heatFor_61 : decode cX8_heatFor 61 = .ok (.aload_n 0, 1) := by decide +kernel
theorem dX8_heatFor_62 : decode cX8_heatFor 62 = .ok (.getfield 10, 3) := by decide +kernel
theorem dX8_heatFor_65 : decode cX8_heatFor 65 = .ok (.invokevirtual 227, 3) := by decide +kernel
theorem dX8_heatFor_68 : decode cX8_heatFor 68 = .ok (.aload_n 0, 1) := by decide +kernel
theorem dX8_heatFor_69 : decode cX8_heatFor 69 = .ok (.getfield 19, 3) := by decide +kernel
theorem dX8_heatFor_72 : decode cX8_heatFor 72 = .ok (.iload_n 3, 1) := by decide +kernel
theorem dX8_heatFor_73 : decode cX8_heatFor 73 = .ok (.putfield 213, 3) := by decide +kernel
theorem dX8_heatFor_76 : decode cX8_heatFor 76 = .ok (.aload_n 0, 1) := by decide +kernel
theorem dX8_heatFor_77 : decode cX8_heatFor 77 = .ok (.iload_n 1, 1) := by decide +kernel
theorem dX8_heatFor_78 : decode cX8_heatFor 78 = .ok (.iload_n 2, 1) := by decide +kernel
theorem dX8_heatFor_79 : decode cX8_heatFor 79 = .ok (.invokevirtual 237, 3) := by decide +kernel
theorem dX8_heatFor_82 : decode cX8_heatFor 82 = .ok (.ifCond .lt 5, 3) := by decide +kernel
theorem dX8_heatFor_85 : decode cX8_heatFor 85 = .ok (.iload_n 3, 1) := by decide +kernel
theorem dX8_heatFor_86 : decode cX8_heatFor 86 = .ok (.ireturn, 1) := by decide +kernel
theorem dX8_heatFor_87 : decode cX8_heatFor 87 = .ok (.iinc 3 1, 3) := by decide +kernel
theorem dX8_heatFor_90 : decode cX8_heatFor 90 = .ok (.goto (-39), 3) := by decide +kernel
theorem dX8_heatFor_93 : decode cX8_heatFor 93 = .ok (.aload_n 0, 1) := by decide +kernel
theorem dX8_heatFor_94 : decode cX8_heatFor 94 = .ok (.iconst 3, 1) := by decide +kernel
theorem dX8_heatFor_95 : decode cX8_heatFor 95 = .ok (.invokevirtual 67, 3) := by decide +kernel
theorem dX8_heatFor_98 : decode cX8_heatFor 98 = .ok (.ireturn, 1) := by decide +kernel
theorem dX8_brings_0 : decode cX8_brings 0 = .ok (.aload_n 0, 1) := by decide +kernel
theorem dX8_brings_1 : decode cX8_brings 1 = .ok (.iload_n 1, 1) := by decide +kernel
theorem dX8_brings_2 : decode cX8_brings 2 = .ok (.invokevirtual 181, 3) := by decide +kernel
theorem dX8_brings_5 : decode cX8_brings 5 = .ok (.ifCond .eq 10, 3) := by decide +kernel
theorem dX8_brings_8 : decode cX8_brings 8 = .ok (.iload_n 2, 1) := by decide +kernel
theorem dX8_brings_9 : decode cX8_brings 9 = .ok (.invokestatic 196, 3) := by decide +kernel
theorem dX8_brings_12 : decode cX8_brings 12 = .ok (.ifCond .ne 9, 3) := by decide +kernel
theorem dX8_brings_15 : decode cX8_brings 15 = .ok (.aload_n 0, 1) := by decide +kernel
theorem dX8_brings_16 : decode cX8_brings 16 = .ok (.iconst 0, 1) := by decide +kernel
theorem dX8_brings_17 : decode cX8_brings 17 = .ok (.invokevirtual 67, 3) := by decide +kernel
theorem dX8_brings_20 : decode cX8_brings 20 = .ok (.ireturn, 1) := by decide +kernel
theorem dX8_brings_21 : decode cX8_brings 21 = .ok (.aload_n 0, 1) := by decide +kernel
theorem dX8_brings_22 : decode cX8_brings 22 = .ok (.iload_n 2, 1) := by decide +kernel
theorem dX8_brings_23 : decode cX8_brings 23 = .ok (.invokevirtual 199, 3) := by decide +kernel
theorem dX8_brings_26 : decode cX8_brings 26 = .ok (.ifCond .eq 9, 3) := by decide +kernel
theorem dX8_brings_29 : decode cX8_brings 29 = .ok (.aload_n 0, 1) := by decide +kernel
theorem dX8_brings_30 : decode cX8_brings 30 = .ok (.iconst 4, 1) := by decide +kernel
theorem dX8_brings_31 : decode cX8_brings 31 = .ok (.invokevirtual 67, 3) := by decide +kernel
theorem dX8_brings_34 : decode cX8_brings 34 = .ok (.ireturn, 1) := by decide +kernel
theorem dX8_brings_35 : decode cX8_brings 35 = .ok (.aload_n 0, 1) := by decide +kernel
theorem dX8_brings_36 : decode cX8_brings 36 = .ok (.getfield 19, 3) := by decide +kernel
theorem dX8_brings_39 : decode cX8_brings 39 = .ok (.aload_n 0, 1) := by decide +kernel
theorem dX8_brings_40 : decode cX8_brings 40 = .ok (.getfield 10, 3) := by decide +kernel
theorem dX8_brings_43 : decode cX8_brings 43 = .ok (.invokevirtual 227, 3) := by decide +kernel
theorem dX8_brings_46 : decode cX8_brings 46 = .ok (.aload_n 0, 1) := by decide +kernel
theorem dX8_brings_47 : decode cX8_brings 47 = .ok (.getfield 19, 3) := by decide +kernel
theorem dX8_brings_50 : decode cX8_brings 50 = .ok (.iload_n 2, 1) := by decide +kernel
theorem dX8_brings_51 : decode cX8_brings 51 = .ok (.invokevirtual 205, 3) := by decide +kernel
theorem dX8_brings_54 : decode cX8_brings 54 = .ok (.istore_n 3, 1) := by decide +kernel
theorem dX8_brings_55 : decode cX8_brings 55 = .ok (.iload_n 3, 1) := by decide +kernel
theorem dX8_brings_56 : decode cX8_brings 56 = .ok (.aload_n 0, 1) := by decide +kernel
theorem dX8_brings_57 : decode cX8_brings 57 = .ok (.iload_n 1, 1) := by decide +kernel
theorem dX8_brings_58 : decode cX8_brings 58 = .ok (.iload_n 2, 1) := by decide +kernel
theorem dX8_brings_59 : decode cX8_brings 59 = .ok (.invokevirtual 267, 3) := by decide +kernel
theorem dX8_brings_62 : decode cX8_brings 62 = .ok (.isub, 1) := by decide +kernel
theorem dX8_brings_63 : decode cX8_brings 63 = .ok (.ireturn, 1) := by decide +kernel
theorem dX8_best_0 : decode cX8_best 0 = .ok (.iload_n 1, 1) := by decide +kernel
theorem dX8_best_1 : decode cX8_best 1 = .ok (.invokestatic 196, 3) := by decide +kernel
theorem dX8_best_4 : decode cX8_best 4 = .ok (.ifCond .ne 9, 3) := by decide +kernel
theorem dX8_best_7 : decode cX8_best 7 = .ok (.aload_n 0, 1) := by decide +kernel
theorem dX8_best_8 : decode cX8_best 8 = .ok (.iconst 0, 1) := by decide +kernel
theorem dX8_best_9 : decode cX8_best 9 = .ok (.invokevirtual 67, 3) := by decide +kernel
theorem dX8_best_12 : decode cX8_best 12 = .ok (.ireturn, 1) := by decide +kernel
theorem dX8_best_13 : decode cX8_best 13 = .ok (.aload_n 0, 1) := by decide +kernel
theorem dX8_best_14 : decode cX8_best 14 = .ok (.iload_n 1, 1) := by decide +kernel
theorem dX8_best_15 : decode cX8_best 15 = .ok (.invokevirtual 199, 3) := by decide +kernel
theorem dX8_best_18 : decode cX8_best 18 = .ok (.ifCond .eq 9, 3) := by decide +kernel
theorem dX8_best_21 : decode cX8_best 21 = .ok (.aload_n 0, 1) := by decide +kernel
theorem dX8_best_22 : decode cX8_best 22 = .ok (.iconst 4, 1) := by decide +kernel
theorem dX8_best_23 : decode cX8_best 23 = .ok (.invokevirtual 67, 3) := by decide +kernel
theorem dX8_best_26 : decode cX8_best 26 = .ok (.ireturn, 1) := by decide +kernel
theorem dX8_best_27 : decode cX8_best 27 = .ok (.aload_n 0, 1) := by decide +kernel
theorem dX8_best_28 : decode cX8_best 28 = .ok (.getfield 10, 3) := by decide +kernel
theorem dX8_best_31 : decode cX8_best 31 = .ok (.getfield 171, 3) := by decide +kernel
theorem dX8_best_34 : decode cX8_best 34 = .ok (.getfield 270, 3) := by decide +kernel
theorem dX8_best_37 : decode cX8_best 37 = .ok (.ifCond .ne 9, 3) := by decide +kernel
theorem dX8_best_40 : decode cX8_best 40 = .ok (.aload_n 0, 1) := by decide +kernel
theorem dX8_best_41 : decode cX8_best 41 = .ok (.iconst 3, 1) := by decide +kernel
theorem dX8_best_42 : decode cX8_best 42 = .ok (.invokevirtual 67, 3) := by decide +kernel
theorem dX8_best_45 : decode cX8_best 45 = .ok (.ireturn, 1) := by decide +kernel
theorem dX8_best_46 : decode cX8_best 46 = .ok (.aload_n 0, 1) := by decide +kernel
theorem dX8_best_47 : decode cX8_best 47 = .ok (.getfield 28, 3) := by decide +kernel
theorem dX8_best_50 : decode cX8_best 50 = .ok (.invokevirtual 247, 3) := by decide +kernel
theorem dX8_best_53 : decode cX8_best 53 = .ok (.iconst 0, 1) := by decide +kernel
theorem dX8_best_54 : decode cX8_best 54 = .ok (.istore_n 2, 1) := by decide +kernel
theorem dX8_best_55 : decode cX8_best 55 = .ok (.iload_n 2, 1) := by decide +kernel
theorem dX8_best_56 : decode cX8_best 56 = .ok (.aload_n 0, 1) := by decide +kernel
theorem dX8_best_57 : decode cX8_best 57 = .ok (.getfield 10, 3) := by decide +kernel
theorem dX8_best_60 : decode cX8_best 60 = .ok (.getfield 171, 3) := by decide +kernel
theorem dX8_best_63 : decode cX8_best 63 = .ok (.getfield 270, 3) := by decide +kernel
theorem dX8_best_66 : decode cX8_best 66 = .ok (.if_icmp .ge 24, 3) := by decide +kernel
theorem dX8_best_69 : decode cX8_best 69 = .ok (.aload_n 0, 1) := by decide +kernel
theorem dX8_best_70 : decode cX8_best 70 = .ok (.getfield 28, 3) := by decide +kernel
theorem dX8_best_73 : decode cX8_best 73 = .ok (.iload_n 2, 1) := by decide +kernel
theorem dX8_best_74 : decode cX8_best 74 = .ok (.aload_n 0, 1) := by decide +kernel
theorem dX8_best_75 : decode cX8_best 75 = .ok (.iload_n 2, 1) := by decide +kernel
theorem dX8_best_76 : decode cX8_best 76 = .ok (.iload_n 1, 1) := by decide +kernel
theorem dX8_best_77 : decode cX8_best 77 = .ok (.invokevirtual 267, 3) := by decide +kernel
theorem dX8_best_80 : decode cX8_best 80 = .ok (.ineg, 1) := by decide +kernel
theorem dX8_best_81 : decode cX8_best 81 = .ok (.invokevirtual 258, 3) := by decide +kernel
theorem dX8_best_84 : decode cX8_best 84 = .ok (.iinc 2 1, 3) := by decide +kernel
theorem dX8_best_87 : decode cX8_best 87 = .ok (.goto (-32), 3) := by decide +kernel
theorem dX8_best_90 : decode cX8_best 90 = .ok (.aload_n 0, 1) := by decide +kernel
theorem dX8_best_91 : decode cX8_best 91 = .ok (.getfield 28, 3) := by decide +kernel
theorem dX8_best_94 : decode cX8_best 94 = .ok (.getfield 261, 3) := by decide +kernel
theorem dX8_best_97 : decode cX8_best 97 = .ok (.ireturn, 1) := by decide +kernel
theorem dX8_left_0 : decode cX8_left 0 = .ok (.iload_n 1, 1) := by decide +kernel
theorem dX8_left_1 : decode cX8_left 1 = .ok (.invokestatic 196, 3) := by decide +kernel
theorem dX8_left_4 : decode cX8_left 4 = .ok (.ifCond .ne 9, 3) := by decide +kernel
theorem dX8_left_7 : decode cX8_left 7 = .ok (.aload_n 0, 1) := by decide +kernel
theorem dX8_left_8 : decode cX8_left 8 = .ok (.iconst 0, 1) := by decide +kernel
theorem dX8_left_9 : decode cX8_left 9 = .ok (.invokevirtual 67, 3) := by decide +kernel
theorem dX8_left_12 : decode cX8_left 12 = .ok (.ireturn, 1) := by decide +kernel
theorem dX8_left_13 : decode cX8_left 13 = .ok (.aload_n 0, 1) := by decide +kernel
theorem dX8_left_14 : decode cX8_left 14 = .ok (.iload_n 1, 1) := by decide +kernel
theorem dX8_left_15 : decode cX8_left 15 = .ok (.invokevirtual 199, 3) := by decide +kernel
theorem dX8_left_18 : decode cX8_left 18 = .ok (.ifCond .eq 9, 3) := by decide +kernel
theorem dX8_left_21 : decode cX8_left 21 = .ok (.aload_n 0, 1) := by decide +kernel
theorem dX8_left_22 : decode cX8_left 22 = .ok (.iconst 4, 1) := by decide +kernel
theorem dX8_left_23 : decode cX8_left 23 = .ok (.invokevirtual 67, 3) := by decide +kernel
theorem dX8_left_26 : decode cX8_left 26 = .ok (.ireturn, 1) := by decide +kernel
theorem dX8_left_27 : decode cX8_left 27 = .ok (.aload_n 0, 1) := by decide +kernel
theorem dX8_left_28 : decode cX8_left 28 = .ok (.getfield 19, 3) := by decide +kernel
theorem dX8_left_31 : decode cX8_left 31 = .ok (.aload_n 0, 1) := by decide +kernel
theorem dX8_left_32 : decode cX8_left 32 = .ok (.getfield 10, 3) := by decide +kernel
theorem dX8_left_35 : decode cX8_left 35 = .ok (.invokevirtual 227, 3) := by decide +kernel
theorem dX8_left_38 : decode cX8_left 38 = .ok (.aload_n 0, 1) := by decide +kernel
theorem dX8_left_39 : decode cX8_left 39 = .ok (.getfield 19, 3) := by decide +kernel
theorem dX8_left_42 : decode cX8_left 42 = .ok (.iload_n 1, 1) := by decide +kernel
theorem dX8_left_43 : decode cX8_left 43 = .ok (.invokevirtual 205, 3) := by decide +kernel
theorem dX8_left_46 : decode cX8_left 46 = .ok (.pop, 1) := by decide +kernel
theorem dX8_left_47 : decode cX8_left 47 = .ok (.aload_n 0, 1) := by decide +kernel
theorem dX8_left_48 : decode cX8_left 48 = .ok (.getfield 28, 3) := by decide +kernel
theorem dX8_left_51 : decode cX8_left 51 = .ok (.invokevirtual 247, 3) := by decide +kernel
theorem dX8_left_54 : decode cX8_left 54 = .ok (.iconst 0, 1) := by decide +kernel
theorem dX8_left_55 : decode cX8_left 55 = .ok (.istore_n 2, 1) := by decide +kernel
theorem dX8_left_56 : decode cX8_left 56 = .ok (.iload_n 2, 1) := by decide +kernel
theorem dX8_left_57 : decode cX8_left 57 = .ok (.aload_n 0, 1) := by decide +kernel
theorem dX8_left_58 : decode cX8_left 58 = .ok (.getfield 19, 3) := by decide +kernel
theorem dX8_left_61 : decode cX8_left 61 = .ok (.getfield 71, 3) := by decide +kernel
theorem dX8_left_64 : decode cX8_left 64 = .ok (.getfield 224, 3) := by decide +kernel
theorem dX8_left_67 : decode cX8_left 67 = .ok (.if_icmp .ge 43, 3) := by decide +kernel
theorem dX8_left_70 : decode cX8_left 70 = .ok (.aload_n 0, 1) := by decide +kernel
theorem dX8_left_71 : decode cX8_left 71 = .ok (.getfield 19, 3) := by decide +kernel
theorem dX8_left_74 : decode cX8_left 74 = .ok (.getfield 71, 3) := by decide +kernel
theorem dX8_left_77 : decode cX8_left 77 = .ok (.iload_n 2, 1) := by decide +kernel
theorem dX8_left_78 : decode cX8_left 78 = .ok (.invokevirtual 135, 3) := by decide +kernel
theorem dX8_left_81 : decode cX8_left 81 = .ok (.ifCond .ne 23, 3) := by decide +kernel
theorem dX8_left_84 : decode cX8_left 84 = .ok (.aload_n 0, 1) := by decide +kernel
theorem dX8_left_85 : decode cX8_left 85 = .ok (.getfield 28, 3) := by decide +kernel
theorem dX8_left_88 : decode cX8_left 88 = .ok (.iload_n 2, 1) := by decide +kernel
theorem dX8_left_89 : decode cX8_left 89 = .ok (.aload_n 0, 1) := by decide +kernel
theorem dX8_left_90 : decode cX8_left 90 = .ok (.getfield 19, 3) := by decide +kernel
theorem dX8_left_93 : decode cX8_left 93 = .ok (.getfield 71, 3) := by decide +kernel
theorem dX8_left_96 : decode cX8_left 96 = .ok (.getfield 91, 3) := by decide +kernel
theorem dX8_left_99 : decode cX8_left 99 = .ok (.iload_n 2, 1) := by decide +kernel
theorem dX8_left_100 : decode cX8_left 100 = .ok (.iaload, 1) := by decide +kernel
theorem dX8_left_101 : decode cX8_left 101 = .ok (.invokevirtual 258, 3) := by decide +kernel
theorem dX8_left_104 : decode cX8_left 104 = .ok (.iinc 2 1, 3) := by decide +kernel
theorem dX8_left_107 : decode cX8_left 107 = .ok (.goto (-51), 3) := by decide +kernel
theorem dX8_left_110 : decode cX8_left 110 = .ok (.aload_n 0, 1) := by decide +kernel
theorem dX8_left_111 : decode cX8_left 111 = .ok (.getfield 28, 3) := by decide +kernel
theorem dX8_left_114 : decode cX8_left 114 = .ok (.getfield 261, 3) := by decide +kernel
theorem dX8_left_117 : decode cX8_left 117 = .ok (.ifCond .ge 11, 3) := by decide +kernel
theorem dX8_left_120 : decode cX8_left 120 = .ok (.aload_n 0, 1) := by decide +kernel
theorem dX8_left_121 : decode cX8_left 121 = .ok (.iconst 3, 1) := by decide +kernel
theorem dX8_left_122 : decode cX8_left 122 = .ok (.invokevirtual 67, 3) := by decide +kernel
theorem dX8_left_125 : decode cX8_left 125 = .ok (.goto 10, 3) := by decide +kernel
theorem dX8_left_128 : decode cX8_left 128 = .ok (.aload_n 0, 1) := by decide +kernel
theorem dX8_left_129 : decode cX8_left 129 = .ok (.getfield 28, 3) := by decide +kernel
theorem dX8_left_132 : decode cX8_left 132 = .ok (.getfield 261, 3) := by decide +kernel
theorem dX8_left_135 : decode cX8_left 135 = .ok (.ireturn, 1) := by decide +kernel
theorem dX8_boys_0 : decode cX8_boys 0 = .ok (.iload_n 1, 1) := by decide +kernel
theorem dX8_boys_1 : decode cX8_boys 1 = .ok (.iconst 1, 1) := by decide +kernel
theorem dX8_boys_2 : decode cX8_boys 2 = .ok (.bipush 12, 2) := by decide +kernel
theorem dX8_boys_4 : decode cX8_boys 4 = .ok (.invokestatic 63, 3) := by decide +kernel
theorem dX8_boys_7 : decode cX8_boys 7 = .ok (.ifCond .ne 9, 3) := by decide +kernel
theorem dX8_boys_10 : decode cX8_boys 10 = .ok (.aload_n 0, 1) := by decide +kernel
theorem dX8_boys_11 : decode cX8_boys 11 = .ok (.iconst 0, 1) := by decide +kernel
theorem dX8_boys_12 : decode cX8_boys 12 = .ok (.invokevirtual 67, 3) := by decide +kernel
theorem dX8_boys_15 : decode cX8_boys 15 = .ok (.ireturn, 1) := by decide +kernel
theorem dX8_boys_16 : decode cX8_boys 16 = .ok (.aload_n 0, 1) := by decide +kernel
theorem dX8_boys_17 : decode cX8_boys 17 = .ok (.getfield 10, 3) := by decide +kernel
theorem dX8_boys_20 : decode cX8_boys 20 = .ok (.getfield 71, 3) := by decide +kernel
theorem dX8_boys_23 : decode cX8_boys 23 = .ok (.getfield 224, 3) := by decide +kernel
theorem dX8_boys_26 : decode cX8_boys 26 = .ok (.istore_n 2, 1) := by decide +kernel
theorem dX8_boys_27 : decode cX8_boys 27 = .ok (.iload_n 2, 1) := by decide +kernel
theorem dX8_boys_28 : decode cX8_boys 28 = .ok (.ifCond .ne 9, 3) := by decide +kernel
theorem dX8_boys_31 : decode cX8_boys 31 = .ok (.aload_n 0, 1) := by decide +kernel
theorem dX8_boys_32 : decode cX8_boys 32 = .ok (.iconst 4, 1) := by decide +kernel
theorem dX8_boys_33 : decode cX8_boys 33 = .ok (.invokevirtual 67, 3) := by decide +kernel
theorem dX8_boys_36 : decode cX8_boys 36 = .ok (.ireturn, 1) := by decide +kernel
theorem dX8_boys_37 : decode cX8_boys 37 = .ok (.iconst 0, 1) := by decide +kernel
theorem dX8_boys_38 : decode cX8_boys 38 = .ok (.istore_n 3, 1) := by decide +kernel
theorem dX8_boys_39 : decode cX8_boys 39 = .ok (.iconst 0, 1) := by decide +kernel
theorem dX8_boys_40 : decode cX8_boys 40 = .ok (.istore 4, 2) := by decide +kernel
theorem dX8_boys_42 : decode cX8_boys 42 = .ok (.iload 4, 2) := by decide +kernel
theorem dX8_boys_44 : decode cX8_boys 44 = .ok (.iload_n 1, 1) := by decide +kernel
theorem dX8_boys_45 : decode cX8_boys 45 = .ok (.if_icmp .ge 73, 3) := by decide +kernel
theorem dX8_boys_48 : decode cX8_boys 48 = .ok (.aload_n 0, 1) := by decide +kernel
theorem dX8_boys_49 : decode cX8_boys 49 = .ok (.getfield 10, 3) := by decide +kernel
theorem dX8_boys_52 : decode cX8_boys 52 = .ok (.invokevirtual 271, 3) := by decide +kernel
theorem dX8_boys_55 : decode cX8_boys 55 = .ok (.iload_n 2, 1) := by decide +kernel
theorem dX8_boys_56 : decode cX8_boys 56 = .ok (.irem, 1) := by decide +kernel
theorem dX8_boys_57 : decode cX8_boys 57 = .ok (.istore 5, 2) := by decide +kernel
theorem dX8_boys_59 : decode cX8_boys 59 = .ok (.aload_n 0, 1) := by decide +kernel
theorem dX8_boys_60 : decode cX8_boys 60 = .ok (.getfield 10, 3) := by decide +kernel
theorem dX8_boys_63 : decode cX8_boys 63 = .ok (.getfield 71, 3) := by decide +kernel
theorem dX8_boys_66 : decode cX8_boys 66 = .ok (.getfield 100, 3) := by decide +kernel
theorem dX8_boys_69 : decode cX8_boys 69 = .ok (.iload 5, 2) := by decide +kernel
theorem dX8_boys_71 : decode cX8_boys 71 = .ok (.iaload, 1) := by decide +kernel
theorem dX8_boys_72 : decode cX8_boys 72 = .ok (.iconst 3, 1) := by decide +kernel
theorem dX8_boys_73 : decode cX8_boys 73 = .ok (.if_icmp .ne 39, 3) := by decide +kernel
theorem dX8_boys_76 : decode cX8_boys 76 = .ok (.aload_n 0, 1) := by decide +kernel
theorem dX8_boys_77 : decode cX8_boys 77 = .ok (.getfield 10, 3) := by decide +kernel
theorem dX8_boys_80 : decode cX8_boys 80 = .ok (.getfield 71, 3) := by decide +kernel
theorem dX8_boys_83 : decode cX8_boys 83 = .ok (.getfield 91, 3) := by decide +kernel
theorem dX8_boys_86 : decode cX8_boys 86 = .ok (.iload 5, 2) := by decide +kernel
theorem dX8_boys_88 : decode cX8_boys 88 = .ok (.iaload, 1) := by decide +kernel
theorem dX8_boys_89 : decode cX8_boys 89 = .ok (.ifCond .le 23, 3) := by decide +kernel
theorem dX8_boys_92 : decode cX8_boys 92 = .ok (.aload_n 0, 1) := by decide +kernel
theorem dX8_boys_93 : decode cX8_boys 93 = .ok (.getfield 10, 3) := by decide +kernel
theorem dX8_boys_96 : decode cX8_boys 96 = .ok (.getfield 71, 3) := by decide +kernel
theorem dX8_boys_99 : decode cX8_boys 99 = .ok (.getfield 91, 3) := by decide +kernel
theorem dX8_boys_102 : decode cX8_boys 102 = .ok (.iload 5, 2) := by decide +kernel
theorem dX8_boys_104 : decode cX8_boys 104 = .ok (.dup2, 1) := by decide +kernel
theorem dX8_boys_105 : decode cX8_boys 105 = .ok (.iaload, 1) := by decide +kernel
theorem dX8_boys_106 : decode cX8_boys 106 = .ok (.iconst 1, 1) := by decide +kernel
theorem dX8_boys_107 : decode cX8_boys 107 = .ok (.isub, 1) := by decide +kernel
theorem dX8_boys_108 : decode cX8_boys 108 = .ok (.iastore, 1) := by decide +kernel
theorem dX8_boys_109 : decode cX8_boys 109 = .ok (.iinc 3 1, 3) := by decide +kernel
theorem dX8_boys_112 : decode cX8_boys 112 = .ok (.iinc 4 1, 3) := by decide +kernel
theorem dX8_boys_115 : decode cX8_boys 115 = .ok (.goto (-73), 3) := by decide +kernel
theorem dX8_boys_118 : decode cX8_boys 118 = .ok (.iload_n 3, 1) := by decide +kernel
theorem dX8_boys_119 : decode cX8_boys 119 = .ok (.ireturn, 1) := by decide +kernel
theorem dX8_seed_0 : decode cX8_seed 0 = .ok (.aload_n 0, 1) := by decide +kernel
theorem dX8_seed_1 : decode cX8_seed 1 = .ok (.getfield 10, 3) := by decide +kernel
theorem dX8_seed_4 : decode cX8_seed 4 = .ok (.getfield 274, 3) := by decide +kernel
theorem dX8_seed_7 : decode cX8_seed 7 = .ok (.istore_n 2, 1) := by decide +kernel
theorem dX8_seed_8 : decode cX8_seed 8 = .ok (.aload_n 0, 1) := by decide +kernel
theorem dX8_seed_9 : decode cX8_seed 9 = .ok (.getfield 10, 3) := by decide +kernel
theorem dX8_seed_12 : decode cX8_seed 12 = .ok (.iload_n 1, 1) := by decide +kernel
theorem dX8_seed_13 : decode cX8_seed 13 = .ok (.putfield 274, 3) := by decide +kernel
theorem dX8_seed_16 : decode cX8_seed 16 = .ok (.iload_n 2, 1) := by decide +kernel
theorem dX8_seed_17 : decode cX8_seed 17 = .ok (.ireturn, 1) := by decide +kernel
theorem dX8_feed_0 : decode cX8_feed 0 = .ok (.iload_n 2, 1) := by decide +kernel
theorem dX8_feed_1 : decode cX8_feed 1 = .ok (.iconst 1, 1) := by decide +kernel
theorem dX8_feed_2 : decode cX8_feed 2 = .ok (.iconst 4, 1) := by decide +kernel
theorem dX8_feed_3 : decode cX8_feed 3 = .ok (.invokestatic 63, 3) := by decide +kernel
theorem dX8_feed_6 : decode cX8_feed 6 = .ok (.ifCond .ne 9, 3) := by decide +kernel
theorem dX8_feed_9 : decode cX8_feed 9 = .ok (.aload_n 0, 1) := by decide +kernel
theorem dX8_feed_10 : decode cX8_feed 10 = .ok (.iconst 0, 1) := by decide +kernel
theorem dX8_feed_11 : decode cX8_feed 11 = .ok (.invokevirtual 67, 3) := by decide +kernel
theorem dX8_feed_14 : decode cX8_feed 14 = .ok (.ireturn, 1) := by decide +kernel
theorem dX8_feed_15 : decode cX8_feed 15 = .ok (.aload_n 0, 1) := by decide +kernel
theorem dX8_feed_16 : decode cX8_feed 16 = .ok (.getfield 35, 3) := by decide +kernel
theorem dX8_feed_19 : decode cX8_feed 19 = .ok (.iload_n 2, 1) := by decide +kernel
theorem dX8_feed_20 : decode cX8_feed 20 = .ok (.invokevirtual 277, 3) := by decide +kernel
theorem dX8_feed_23 : decode cX8_feed 23 = .ok (.ifCond .ne 9, 3) := by decide +kernel
theorem dX8_feed_26 : decode cX8_feed 26 = .ok (.aload_n 0, 1) := by decide +kernel
theorem dX8_feed_27 : decode cX8_feed 27 = .ok (.iconst 1, 1) := by decide +kernel
theorem dX8_feed_28 : decode cX8_feed 28 = .ok (.invokevirtual 67, 3) := by decide +kernel
theorem dX8_feed_31 : decode cX8_feed 31 = .ok (.ireturn, 1) := by decide +kernel
theorem dX8_feed_32 : decode cX8_feed 32 = .ok (.aload_n 0, 1) := by decide +kernel
theorem dX8_feed_33 : decode cX8_feed 33 = .ok (.getfield 35, 3) := by decide +kernel
theorem dX8_feed_36 : decode cX8_feed 36 = .ok (.iload_n 1, 1) := by decide +kernel
theorem dX8_feed_37 : decode cX8_feed 37 = .ok (.iload_n 2, 1) := by decide +kernel
theorem dX8_feed_38 : decode cX8_feed 38 = .ok (.invokevirtual 278, 3) := by decide +kernel
theorem dX8_feed_41 : decode cX8_feed 41 = .ok (.aload_n 0, 1) := by decide +kernel
theorem dX8_feed_42 : decode cX8_feed 42 = .ok (.getfield 35, 3) := by decide +kernel
theorem dX8_feed_45 : decode cX8_feed 45 = .ok (.getfield 281, 3) := by decide +kernel
theorem dX8_feed_48 : decode cX8_feed 48 = .ok (.ireturn, 1) := by decide +kernel
theorem dX8_wipe_0 : decode cX8_wipe 0 = .ok (.aload_n 0, 1) := by decide +kernel
theorem dX8_wipe_1 : decode cX8_wipe 1 = .ok (.getfield 35, 3) := by decide +kernel
theorem dX8_wipe_4 : decode cX8_wipe 4 = .ok (.getfield 281, 3) := by decide +kernel
theorem dX8_wipe_7 : decode cX8_wipe 7 = .ok (.istore_n 1, 1) := by decide +kernel
theorem dX8_wipe_8 : decode cX8_wipe 8 = .ok (.aload_n 0, 1) := by decide +kernel
theorem dX8_wipe_9 : decode cX8_wipe 9 = .ok (.getfield 35, 3) := by decide +kernel
theorem dX8_wipe_12 : decode cX8_wipe 12 = .ok (.iconst 0, 1) := by decide +kernel
theorem dX8_wipe_13 : decode cX8_wipe 13 = .ok (.putfield 281, 3) := by decide +kernel
theorem dX8_wipe_16 : decode cX8_wipe 16 = .ok (.iload_n 1, 1) := by decide +kernel
theorem dX8_wipe_17 : decode cX8_wipe 17 = .ok (.ireturn, 1) := by decide +kernel
theorem dX8_text_0 : decode cX8_text 0 = .ok (.aload_n 0, 1) := by decide +kernel
theorem dX8_text_1 : decode cX8_text 1 = .ok (.getfield 19, 3) := by decide +kernel
theorem dX8_text_4 : decode cX8_text 4 = .ok (.aload_n 0, 1) := by decide +kernel
theorem dX8_text_5 : decode cX8_text 5 = .ok (.getfield 10, 3) := by decide +kernel
theorem dX8_text_8 : decode cX8_text 8 = .ok (.invokevirtual 227, 3) := by decide +kernel
theorem dX8_text_11 : decode cX8_text 11 = .ok (.aload_n 0, 1) := by decide +kernel
theorem dX8_text_12 : decode cX8_text 12 = .ok (.getfield 44, 3) := by decide +kernel
theorem dX8_text_15 : decode cX8_text 15 = .ok (.invokevirtual 284, 3) := by decide +kernel
theorem dX8_text_18 : decode cX8_text 18 = .ok (.istore_n 1, 1) := by decide +kernel
theorem dX8_text_19 : decode cX8_text 19 = .ok (.iload_n 1, 1) := by decide +kernel
theorem dX8_text_20 : decode cX8_text 20 = .ok (.ifCond .lt 14, 3) := by decide +kernel
theorem dX8_text_23 : decode cX8_text 23 = .ok (.aload_n 0, 1) := by decide +kernel
theorem dX8_text_24 : decode cX8_text 24 = .ok (.getfield 10, 3) := by decide +kernel
theorem dX8_text_27 : decode cX8_text 27 = .ok (.aload_n 0, 1) := by decide +kernel
theorem dX8_text_28 : decode cX8_text 28 = .ok (.getfield 19, 3) := by decide +kernel
theorem dX8_text_31 : decode cX8_text 31 = .ok (.invokevirtual 227, 3) := by decide +kernel
theorem dX8_text_34 : decode cX8_text 34 = .ok (.aload_n 0, 1) := by decide +kernel
theorem dX8_text_35 : decode cX8_text 35 = .ok (.getfield 35, 3) := by decide +kernel
theorem dX8_text_38 : decode cX8_text 38 = .ok (.iconst 0, 1) := by decide +kernel
theorem dX8_text_39 : decode cX8_text 39 = .ok (.putfield 281, 3) := by decide +kernel
theorem dX8_text_42 : decode cX8_text 42 = .ok (.iload_n 1, 1) := by decide +kernel
theorem dX8_text_43 : decode cX8_text 43 = .ok (.ireturn, 1) := by decide +kernel
theorem dX8_hold_0 : decode cX8_hold 0 = .ok (.iload_n 1, 1) := by decide +kernel
theorem dX8_hold_1 : decode cX8_hold 1 = .ok (.invokestatic 287, 3) := by decide +kernel
theorem dX8_hold_4 : decode cX8_hold 4 = .ok (.ifCond .eq 16, 3) := by decide +kernel
theorem dX8_hold_7 : decode cX8_hold 7 = .ok (.iload_n 2, 1) := by decide +kernel
theorem dX8_hold_8 : decode cX8_hold 8 = .ok (.iconst (-1), 1) := by decide +kernel
theorem dX8_hold_9 : decode cX8_hold 9 = .ok (.if_icmp .eq 17, 3) := by decide +kernel
theorem dX8_hold_12 : decode cX8_hold 12 = .ok (.aload_n 0, 1) := by decide +kernel
theorem dX8_hold_13 : decode cX8_hold 13 = .ok (.iload_n 2, 1) := by decide +kernel
theorem dX8_hold_14 : decode cX8_hold 14 = .ok (.invokevirtual 84, 3) := by decide +kernel
theorem dX8_hold_17 : decode cX8_hold 17 = .ok (.ifCond .ne 9, 3) := by decide +kernel
theorem dX8_hold_20 : decode cX8_hold 20 = .ok (.aload_n 0, 1) := by decide +kernel
theorem dX8_hold_21 : decode cX8_hold 21 = .ok (.iconst 0, 1) := by decide +kernel
theorem dX8_hold_22 : decode cX8_hold 22 = .ok (.invokevirtual 67, 3) := by decide +kernel
theorem dX8_hold_25 : decode cX8_hold 25 = .ok (.ireturn, 1) := by decide +kernel
theorem dX8_hold_26 : decode cX8_hold 26 = .ok (.aload_n 0, 1) := by decide +kernel
theorem dX8_hold_27 : decode cX8_hold 27 = .ok (.getfield 10, 3) := by decide +kernel
theorem dX8_hold_30 : decode cX8_hold 30 = .ok (.getfield 290, 3) := by decide +kernel
theorem dX8_hold_33 : decode cX8_hold 33 = .ok (.iload_n 1, 1) := by decide +kernel
theorem dX8_hold_34 : decode cX8_hold 34 = .ok (.iload_n 2, 1) := by decide +kernel
theorem dX8_hold_35 : decode cX8_hold 35 = .ok (.iastore, 1) := by decide +kernel
theorem dX8_hold_36 : decode cX8_hold 36 = .ok (.iconst 1, 1) := by decide +kernel
theorem dX8_hold_37 : decode cX8_hold 37 = .ok (.ireturn, 1) := by decide +kernel
theorem dX8_as_0 : decode cX8_as 0 = .ok (.iload_n 1, 1) := by decide +kernel
theorem dX8_as_1 : decode cX8_as 1 = .ok (.invokestatic 287, 3) := by decide +kernel
theorem dX8_as_4 : decode cX8_as 4 = .ok (.ifCond .eq 13, 3) := by decide +kernel
theorem dX8_as_7 : decode cX8_as 7 = .ok (.iload_n 2, 1) := by decide +kernel
theorem dX8_as_8 : decode cX8_as 8 = .ok (.iconst 0, 1) := by decide +kernel
theorem dX8_as_9 : decode cX8_as 9 = .ok (.bipush 6, 2) := by decide +kernel
theorem dX8_as_11 : decode cX8_as 11 = .ok (.invokestatic 63, 3) := by decide +kernel
theorem dX8_as_14 : decode cX8_as 14 = .ok (.ifCond .ne 9, 3) := by decide +kernel
theorem dX8_as_17 : decode cX8_as 17 = .ok (.aload_n 0, 1) := by decide +kernel
theorem dX8_as_18 : decode cX8_as 18 = .ok (.iconst 0, 1) := by decide +kernel
theorem dX8_as_19 : decode cX8_as 19 = .ok (.invokevirtual 67, 3) := by decide +kernel
theorem dX8_as_22 : decode cX8_as 22 = .ok (.ireturn, 1) := by decide +kernel
theorem dX8_as_23 : decode cX8_as 23 = .ok (.aload_n 0, 1) := by decide +kernel
theorem dX8_as_24 : decode cX8_as 24 = .ok (.getfield 10, 3) := by decide +kernel
theorem dX8_as_27 : decode cX8_as 27 = .ok (.getfield 290, 3) := by decide +kernel
theorem dX8_as_30 : decode cX8_as 30 = .ok (.iload_n 1, 1) := by decide +kernel
theorem dX8_as_31 : decode cX8_as 31 = .ok (.iaload, 1) := by decide +kernel
theorem dX8_as_32 : decode cX8_as 32 = .ok (.istore_n 3, 1) := by decide +kernel
theorem dX8_as_33 : decode cX8_as 33 = .ok (.aload_n 0, 1) := by decide +kernel
theorem dX8_as_34 : decode cX8_as 34 = .ok (.iload_n 3, 1) := by decide +kernel
theorem dX8_as_35 : decode cX8_as 35 = .ok (.invokevirtual 84, 3) := by decide +kernel
theorem dX8_as_38 : decode cX8_as 38 = .ok (.ifCond .ne 9, 3) := by decide +kernel
theorem dX8_as_41 : decode cX8_as 41 = .ok (.aload_n 0, 1) := by decide +kernel
theorem dX8_as_42 : decode cX8_as 42 = .ok (.iconst 5, 1) := by decide +kernel
theorem dX8_as_43 : decode cX8_as 43 = .ok (.invokevirtual 67, 3) := by decide +kernel
theorem dX8_as_46 : decode cX8_as 46 = .ok (.ireturn, 1) := by decide +kernel
theorem dX8_as_47 : decode cX8_as 47 = .ok (.aload_n 0, 1) := by decide +kernel
theorem dX8_as_48 : decode cX8_as 48 = .ok (.getfield 10, 3) := by decide +kernel
theorem dX8_as_51 : decode cX8_as 51 = .ok (.getfield 71, 3) := by decide +kernel
theorem dX8_as_54 : decode cX8_as 54 = .ok (.getfield 88, 3) := by decide +kernel
theorem dX8_as_57 : decode cX8_as 57 = .ok (.iload_n 3, 1) := by decide +kernel
theorem dX8_as_58 : decode cX8_as 58 = .ok (.iaload, 1) := by decide +kernel
theorem dX8_as_59 : decode cX8_as 59 = .ok (.iload_n 2, 1) := by decide +kernel
theorem dX8_as_60 : decode cX8_as 60 = .ok (.invokestatic 293, 3) := by decide +kernel
theorem dX8_as_63 : decode cX8_as 63 = .ok (.ifCond .ne 9, 3) := by decide +kernel
theorem dX8_as_66 : decode cX8_as 66 = .ok (.aload_n 0, 1) := by decide +kernel
theorem dX8_as_67 : decode cX8_as 67 = .ok (.iconst 2, 1) := by decide +kernel
theorem dX8_as_68 : decode cX8_as 68 = .ok (.invokevirtual 67, 3) := by decide +kernel
theorem dX8_as_71 : decode cX8_as 71 = .ok (.ireturn, 1) := by decide +kernel
theorem dX8_as_72 : decode cX8_as 72 = .ok (.iload_n 3, 1) := by decide +kernel
theorem dX8_as_73 : decode cX8_as 73 = .ok (.ireturn, 1) := by decide +kernel
theorem dX8_sheet_0 : decode cX8_sheet 0 = .ok (.aload_n 0, 1) := by decide +kernel
theorem dX8_sheet_1 : decode cX8_sheet 1 = .ok (.getfield 51, 3) := by decide +kernel
theorem dX8_sheet_4 : decode cX8_sheet 4 = .ok (.iload_n 1, 1) := by decide +kernel
theorem dX8_sheet_5 : decode cX8_sheet 5 = .ok (.invokevirtual 296, 3) := by decide +kernel
theorem dX8_sheet_8 : decode cX8_sheet 8 = .ok (.ifCond .eq 25, 3) := by decide +kernel
theorem dX8_sheet_11 : decode cX8_sheet 11 = .ok (.iload_n 2, 1) := by decide +kernel
theorem dX8_sheet_12 : decode cX8_sheet 12 = .ok (.ifCond .eq 27, 3) := by decide +kernel
theorem dX8_sheet_15 : decode cX8_sheet 15 = .ok (.iload_n 2, 1) := by decide +kernel
theorem dX8_sheet_16 : decode cX8_sheet 16 = .ok (.bipush 8, 2) := by decide +kernel
theorem dX8_sheet_18 : decode cX8_sheet 18 = .ok (.if_icmp .eq 21, 3) := by decide +kernel
theorem dX8_sheet_21 : decode cX8_sheet 21 = .ok (.iload_n 2, 1) := by decide +kernel
theorem dX8_sheet_22 : decode cX8_sheet 22 = .ok (.bipush 16, 2) := by decide +kernel
theorem dX8_sheet_24 : decode cX8_sheet 24 = .ok (.if_icmp .eq 15, 3) := by decide +kernel
theorem dX8_sheet_27 : decode cX8_sheet 27 = .ok (.iload_n 2, 1) := by decide +kernel
theorem dX8_sheet_28 : decode cX8_sheet 28 = .ok (.bipush 32, 2) := by decide +kernel
theorem dX8_sheet_30 : decode cX8_sheet 30 = .ok (.if_icmp .eq 9, 3) := by decide +kernel
theorem dX8_sheet_33 : decode cX8_sheet 33 = .ok (.aload_n 0, 1) := by decide +kernel
theorem dX8_sheet_34 : decode cX8_sheet 34 = .ok (.iconst 0, 1) := by decide +kernel
theorem dX8_sheet_35 : decode cX8_sheet 35 = .ok (.invokevirtual 67, 3) := by decide +kernel
theorem dX8_sheet_38 : decode cX8_sheet 38 = .ok (.ireturn, 1) := by decide +kernel
theorem dX8_sheet_39 : decode cX8_sheet 39 = .ok (.iload_n 3, 1) := by decide +kernel
theorem dX8_sheet_40 : decode cX8_sheet 40 = .ok (.ifCond .ge 10, 3) := by decide +kernel
theorem dX8_sheet_43 : decode cX8_sheet 43 = .ok (.aload_n 0, 1) := by decide +kernel
theorem dX8_sheet_44 : decode cX8_sheet 44 = .ok (.bipush 6, 2) := by decide +kernel
theorem dX8_sheet_46 : decode cX8_sheet 46 = .ok (.invokevirtual 67, 3) := by decide +kernel
theorem dX8_sheet_49 : decode cX8_sheet 49 = .ok (.ireturn, 1) := by decide +kernel
theorem dX8_sheet_50 : decode cX8_sheet 50 = .ok (.iload_n 3, 1) := by decide +kernel
theorem dX8_sheet_51 : decode cX8_sheet 51 = .ok (.bipush 40, 2) := by decide +kernel
theorem dX8_sheet_53 : decode cX8_sheet 53 = .ok (.if_icmp .le 9, 3) := by decide +kernel
theorem dX8_sheet_56 : decode cX8_sheet 56 = .ok (.aload_n 0, 1) := by decide +kernel
theorem dX8_sheet_57 : decode cX8_sheet 57 = .ok (.iconst 0, 1) := by decide +kernel
theorem dX8_sheet_58 : decode cX8_sheet 58 = .ok (.invokevirtual 67, 3) := by decide +kernel
theorem dX8_sheet_61 : decode cX8_sheet 61 = .ok (.ireturn, 1) := by decide +kernel
theorem dX8_sheet_62 : decode cX8_sheet 62 = .ok (.aload_n 0, 1) := by decide +kernel
theorem dX8_sheet_63 : decode cX8_sheet 63 = .ok (.getfield 51, 3) := by decide +kernel
theorem dX8_sheet_66 : decode cX8_sheet 66 = .ok (.iload_n 1, 1) := by decide +kernel
theorem dX8_sheet_67 : decode cX8_sheet 67 = .ok (.iload_n 2, 1) := by decide +kernel
theorem dX8_sheet_68 : decode cX8_sheet 68 = .ok (.iload_n 2, 1) := by decide +kernel
theorem dX8_sheet_69 : decode cX8_sheet 69 = .ok (.ifCond .ne 7, 3) := by decide +kernel
theorem dX8_sheet_72 : decode cX8_sheet 72 = .ok (.iconst 0, 1) := by decide +kernel
theorem dX8_sheet_73 : decode cX8_sheet 73 = .ok (.goto 4, 3) := by decide +kernel
theorem dX8_sheet_76 : decode cX8_sheet 76 = .ok (.iload_n 3, 1) := by decide +kernel
theorem dX8_sheet_77 : decode cX8_sheet 77 = .ok (.invokevirtual 299, 3) := by decide +kernel
theorem dX8_sheet_80 : decode cX8_sheet 80 = .ok (.aload_n 0, 1) := by decide +kernel
theorem dX8_sheet_81 : decode cX8_sheet 81 = .ok (.getfield 51, 3) := by decide +kernel
theorem dX8_sheet_84 : decode cX8_sheet 84 = .ok (.getfield 302, 3) := by decide +kernel
theorem dX8_sheet_87 : decode cX8_sheet 87 = .ok (.iload_n 1, 1) := by decide +kernel
theorem dX8_sheet_88 : decode cX8_sheet 88 = .ok (.iaload, 1) := by decide +kernel
theorem dX8_sheet_89 : decode cX8_sheet 89 = .ok (.ireturn, 1) := by decide +kernel
theorem dX8_write_0 : decode cX8_write 0 = .ok (.aload_n 0, 1) := by decide +kernel
theorem dX8_write_1 : decode cX8_write 1 = .ok (.getfield 51, 3) := by decide +kernel
theorem dX8_write_4 : decode cX8_write 4 = .ok (.iload_n 1, 1) := by decide +kernel
theorem dX8_write_5 : decode cX8_write 5 = .ok (.invokevirtual 296, 3) := by decide +kernel
theorem dX8_write_8 : decode cX8_write 8 = .ok (.ifCond .ne 9, 3) := by decide +kernel
theorem dX8_write_11 : decode cX8_write 11 = .ok (.aload_n 0, 1) := by decide +kernel
theorem dX8_write_12 : decode cX8_write 12 = .ok (.iconst 0, 1) := by decide +kernel
theorem dX8_write_13 : decode cX8_write 13 = .ok (.invokevirtual 67, 3) := by decide +kernel
theorem dX8_write_16 : decode cX8_write 16 = .ok (.ireturn, 1) := by decide +kernel
theorem dX8_write_17 : decode cX8_write 17 = .ok (.aload_n 0, 1) := by decide +kernel
theorem dX8_write_18 : decode cX8_write 18 = .ok (.getfield 51, 3) := by decide +kernel
theorem dX8_write_21 : decode cX8_write 21 = .ok (.iload_n 1, 1) := by decide +kernel
theorem dX8_write_22 : decode cX8_write 22 = .ok (.invokevirtual 305, 3) := by decide +kernel
theorem dX8_write_25 : decode cX8_write 25 = .ok (.ifCond .eq 9, 3) := by decide +kernel
theorem dX8_write_28 : decode cX8_write 28 = .ok (.aload_n 0, 1) := by decide +kernel
theorem dX8_write_29 : decode cX8_write 29 = .ok (.iconst 5, 1) := by decide +kernel
theorem dX8_write_30 : decode cX8_write 30 = .ok (.invokevirtual 67, 3) := by decide +kernel
theorem dX8_write_33 : decode cX8_write 33 = .ok (.ireturn, 1) := by decide +kernel
theorem dX8_write_34 : decode cX8_write 34 = .ok (.iload_n 2, 1) := by decide +kernel
theorem dX8_write_35 : decode cX8_write 35 = .ok (.ifCond .lt 16, 3) := by decide +kernel
theorem dX8_write_38 : decode cX8_write 38 = .ok (.iload_n 2, 1) := by decide +kernel
theorem dX8_write_39 : decode cX8_write 39 = .ok (.aload_n 0, 1) := by decide +kernel
theorem dX8_write_40 : decode cX8_write 40 = .ok (.getfield 51, 3) := by decide +kernel
theorem dX8_write_43 : decode cX8_write 43 = .ok (.getfield 302, 3) := by decide +kernel
theorem dX8_write_46 : decode cX8_write 46 = .ok (.iload_n 1, 1) := by decide +kernel
theorem dX8_write_47 : decode cX8_write 47 = .ok (.iaload, 1) := by decide +kernel
theorem dX8_write_48 : decode cX8_write 48 = .ok (.if_icmp .lt 9, 3) := by decide +kernel
theorem dX8_write_51 : decode cX8_write 51 = .ok (.aload_n 0, 1) := by decide +kernel
theorem dX8_write_52 : decode cX8_write 52 = .ok (.iconst 0, 1) := by decide +kernel
theorem dX8_write_53 : decode cX8_write 53 = .ok (.invokevirtual 67, 3) := by decide +kernel
theorem dX8_write_56 : decode cX8_write 56 = .ok (.ireturn, 1) := by decide +kernel
theorem dX8_write_57 : decode cX8_write 57 = .ok (.aload_n 0, 1) := by decide +kernel
theorem dX8_write_58 : decode cX8_write 58 = .ok (.getfield 51, 3) := by decide +kernel
theorem dX8_write_61 : decode cX8_write 61 = .ok (.iload_n 1, 1) := by decide +kernel
theorem dX8_write_62 : decode cX8_write 62 = .ok (.iload_n 2, 1) := by decide +kernel
theorem dX8_write_63 : decode cX8_write 63 = .ok (.iload_n 3, 1) := by decide +kernel
theorem dX8_write_64 : decode cX8_write 64 = .ok (.invokevirtual 308, 3) := by decide +kernel
theorem dX8_write_67 : decode cX8_write 67 = .ok (.iconst 1, 1) := by decide +kernel
theorem dX8_write_68 : decode cX8_write 68 = .ok (.ireturn, 1) := by decide +kernel
theorem dX8_copy_0 : decode cX8_copy 0 = .ok (.aload_n 0, 1) := by decide +kernel
theorem dX8_copy_1 : decode cX8_copy 1 = .ok (.getfield 51, 3) := by decide +kernel
theorem dX8_copy_4 : decode cX8_copy 4 = .ok (.iload_n 1, 1) := by decide +kernel
theorem dX8_copy_5 : decode cX8_copy 5 = .ok (.invokevirtual 296, 3) := by decide +kernel
theorem dX8_copy_8 : decode cX8_copy 8 = .ok (.ifCond .eq 14, 3) := by decide +kernel
theorem dX8_copy_11 : decode cX8_copy 11 = .ok (.aload_n 0, 1) := by decide +kernel
theorem dX8_copy_12 : decode cX8_copy 12 = .ok (.getfield 51, 3) := by decide +kernel
theorem dX8_copy_15 : decode cX8_copy 15 = .ok (.iload_n 3, 1) := by decide +kernel
theorem dX8_copy_16 : decode cX8_copy 16 = .ok (.invokevirtual 296, 3) := by decide +kernel
theorem dX8_copy_19 : decode cX8_copy 19 = .ok (.ifCond .ne 9, 3) := by decide +kernel
theorem dX8_copy_22 : decode cX8_copy 22 = .ok (.aload_n 0, 1) := by decide +kernel
theorem dX8_copy_23 : decode cX8_copy 23 = .ok (.iconst 0, 1) := by decide +kernel
theorem dX8_copy_24 : decode cX8_copy 24 = .ok (.invokevirtual 67, 3) := by decide +kernel
theorem dX8_copy_27 : decode cX8_copy 27 = .ok (.ireturn, 1) := by decide +kernel
theorem dX8_copy_28 : decode cX8_copy 28 = .ok (.aload_n 0, 1) := by decide +kernel
theorem dX8_copy_29 : decode cX8_copy 29 = .ok (.getfield 51, 3) := by decide +kernel
theorem dX8_copy_32 : decode cX8_copy 32 = .ok (.iload_n 1, 1) := by decide +kernel
theorem dX8_copy_33 : decode cX8_copy 33 = .ok (.invokevirtual 305, 3) := by decide +kernel
theorem dX8_copy_36 : decode cX8_copy 36 = .ok (.ifCond .ne 14, 3) := by decide +kernel
theorem dX8_copy_39 : decode cX8_copy 39 = .ok (.aload_n 0, 1) := by decide +kernel
theorem dX8_copy_40 : decode cX8_copy 40 = .ok (.getfield 51, 3) := by decide +kernel
theorem dX8_copy_43 : decode cX8_copy 43 = .ok (.iload_n 3, 1) := by decide +kernel
theorem dX8_copy_44 : decode cX8_copy 44 = .ok (.invokevirtual 305, 3) := by decide +kernel
theorem dX8_copy_47 : decode cX8_copy 47 = .ok (.ifCond .eq 9, 3) := by decide +kernel
theorem dX8_copy_50 : decode cX8_copy 50 = .ok (.aload_n 0, 1) := by decide +kernel
theorem dX8_copy_51 : decode cX8_copy 51 = .ok (.iconst 5, 1) := by decide +kernel
theorem dX8_copy_52 : decode cX8_copy 52 = .ok (.invokevirtual 67, 3) := by decide +kernel
theorem dX8_copy_55 : decode cX8_copy 55 = .ok (.ireturn, 1) := by decide +kernel
theorem dX8_copy_56 : decode cX8_copy 56 = .ok (.aload_n 0, 1) := by decide +kernel
theorem dX8_copy_57 : decode cX8_copy 57 = .ok (.getfield 51, 3) := by decide +kernel
theorem dX8_copy_60 : decode cX8_copy 60 = .ok (.getfield 311, 3) := by decide +kernel
theorem dX8_copy_63 : decode cX8_copy 63 = .ok (.iload_n 1, 1) := by decide +kernel
theorem dX8_copy_64 : decode cX8_copy 64 = .ok (.iaload, 1) := by decide +kernel
theorem dX8_copy_65 : decode cX8_copy 65 = .ok (.aload_n 0, 1) := by decide +kernel
theorem dX8_copy_66 : decode cX8_copy 66 = .ok (.getfield 51, 3) := by decide +kernel
theorem dX8_copy_69 : decode cX8_copy 69 = .ok (.getfield 311, 3) := by decide +kernel
theorem dX8_copy_72 : decode cX8_copy 72 = .ok (.iload_n 3, 1) := by decide +kernel
theorem dX8_copy_73 : decode cX8_copy 73 = .ok (.iaload, 1) := by decide +kernel
theorem dX8_copy_74 : decode cX8_copy 74 = .ok (.if_icmp .eq 9, 3) := by decide +kernel
theorem dX8_copy_77 : decode cX8_copy 77 = .ok (.aload_n 0, 1) := by decide +kernel
theorem dX8_copy_78 : decode cX8_copy 78 = .ok (.iconst 2, 1) := by decide +kernel
theorem dX8_copy_79 : decode cX8_copy 79 = .ok (.invokevirtual 67, 3) := by decide +kernel
theorem dX8_copy_82 : decode cX8_copy 82 = .ok (.ireturn, 1) := by decide +kernel
theorem dX8_copy_83 : decode cX8_copy 83 = .ok (.aload_n 0, 1) := by decide +kernel
theorem dX8_copy_84 : decode cX8_copy 84 = .ok (.getfield 51, 3) := by decide +kernel
theorem dX8_copy_87 : decode cX8_copy 87 = .ok (.iload_n 1, 1) := by decide +kernel
theorem dX8_copy_88 : decode cX8_copy 88 = .ok (.iload_n 2, 1) := by decide +kernel
theorem dX8_copy_89 : decode cX8_copy 89 = .ok (.iload 5, 2) := by decide +kernel
theorem dX8_copy_91 : decode cX8_copy 91 = .ok (.invokevirtual 314, 3) := by decide +kernel
theorem dX8_copy_94 : decode cX8_copy 94 = .ok (.ifCond .eq 18, 3) := by decide +kernel
theorem dX8_copy_97 : decode cX8_copy 97 = .ok (.aload_n 0, 1) := by decide +kernel
theorem dX8_copy_98 : decode cX8_copy 98 = .ok (.getfield 51, 3) := by decide +kernel
theorem dX8_copy_101 : decode cX8_copy 101 = .ok (.iload_n 3, 1) := by decide +kernel
theorem dX8_copy_102 : decode cX8_copy 102 = .ok (.iload 4, 2) := by decide +kernel
theorem dX8_copy_104 : decode cX8_copy 104 = .ok (.iload 5, 2) := by decide +kernel
theorem dX8_copy_106 : decode cX8_copy 106 = .ok (.invokevirtual 314, 3) := by decide +kernel
theorem dX8_copy_109 : decode cX8_copy 109 = .ok (.ifCond .ne 9, 3) := by decide +kernel
theorem dX8_copy_112 : decode cX8_copy 112 = .ok (.aload_n 0, 1) := by decide +kernel
theorem dX8_copy_113 : decode cX8_copy 113 = .ok (.iconst 0, 1) := by decide +kernel
theorem dX8_copy_114 : decode cX8_copy 114 = .ok (.invokevirtual 67, 3) := by decide +kernel
theorem dX8_copy_117 : decode cX8_copy 117 = .ok (.ireturn, 1) := by decide +kernel
theorem dX8_copy_118 : decode cX8_copy 118 = .ok (.aload_n 0, 1) := by decide +kernel
theorem dX8_copy_119 : decode cX8_copy 119 = .ok (.getfield 51, 3) := by decide +kernel
theorem dX8_copy_122 : decode cX8_copy 122 = .ok (.iload_n 1, 1) := by decide +kernel
theorem dX8_copy_123 : decode cX8_copy 123 = .ok (.iload_n 2, 1) := by decide +kernel
theorem dX8_copy_124 : decode cX8_copy 124 = .ok (.iload_n 3, 1) := by decide +kernel
theorem dX8_copy_125 : decode cX8_copy 125 = .ok (.iload 4, 2) := by decide +kernel
theorem dX8_copy_127 : decode cX8_copy 127 = .ok (.iload 5, 2) := by decide +kernel
theorem dX8_copy_129 : decode cX8_copy 129 = .ok (.invokevirtual 317, 3) := by decide +kernel
theorem dX8_copy_132 : decode cX8_copy 132 = .ok (.iload 5, 2) := by decide +kernel
theorem dX8_copy_134 : decode cX8_copy 134 = .ok (.ireturn, 1) := by decide +kernel
theorem dX8_load_0 : decode cX8_load 0 = .ok (.aload_n 0, 1) := by decide +kernel
theorem dX8_load_1 : decode cX8_load 1 = .ok (.getfield 51, 3) := by decide +kernel
theorem dX8_load_4 : decode cX8_load 4 = .ok (.iload_n 1, 1) := by decide +kernel
theorem dX8_load_5 : decode cX8_load 5 = .ok (.invokevirtual 296, 3) := by decide +kernel
theorem dX8_load_8 : decode cX8_load 8 = .ok (.ifCond .ne 9, 3) := by decide +kernel
theorem dX8_load_11 : decode cX8_load 11 = .ok (.aload_n 0, 1) := by decide +kernel
theorem dX8_load_12 : decode cX8_load 12 = .ok (.iconst 0, 1) := by decide +kernel
theorem dX8_load_13 : decode cX8_load 13 = .ok (.invokevirtual 67, 3) := by decide +kernel
theorem dX8_load_16 : decode cX8_load 16 = .ok (.ireturn, 1) := by decide +kernel
theorem dX8_load_17 : decode cX8_load 17 = .ok (.aload_n 0, 1) := by decide +kernel
theorem dX8_load_18 : decode cX8_load 18 = .ok (.getfield 51, 3) := by decide +kernel
theorem dX8_load_21 : decode cX8_load 21 = .ok (.iload_n 1, 1) := by decide +kernel
theorem dX8_load_22 : decode cX8_load 22 = .ok (.invokevirtual 305, 3) := by decide +kernel
theorem dX8_load_25 : decode cX8_load 25 = .ok (.ifCond .eq 9, 3) := by decide +kernel
theorem dX8_load_28 : decode cX8_load 28 = .ok (.aload_n 0, 1) := by decide +kernel
theorem dX8_load_29 : decode cX8_load 29 = .ok (.iconst 5, 1) := by decide +kernel
theorem dX8_load_30 : decode cX8_load 30 = .ok (.invokevirtual 67, 3) := by decide +kernel
theorem dX8_load_33 : decode cX8_load 33 = .ok (.ireturn, 1) := by decide +kernel
theorem dX8_load_34 : decode cX8_load 34 = .ok (.aload_n 0, 1) := by decide +kernel
theorem dX8_load_35 : decode cX8_load 35 = .ok (.getfield 51, 3) := by decide +kernel
theorem dX8_load_38 : decode cX8_load 38 = .ok (.getfield 302, 3) := by decide +kernel
theorem dX8_load_41 : decode cX8_load 41 = .ok (.iload_n 1, 1) := by decide +kernel
theorem dX8_load_42 : decode cX8_load 42 = .ok (.iaload, 1) := by decide +kernel
theorem dX8_load_43 : decode cX8_load 43 = .ok (.aload_n 0, 1) := by decide +kernel
theorem dX8_load_44 : decode cX8_load 44 = .ok (.getfield 10, 3) := by decide +kernel
theorem dX8_load_47 : decode cX8_load 47 = .ok (.getfield 71, 3) := by decide +kernel
theorem dX8_load_50 : decode cX8_load 50 = .ok (.getfield 224, 3) := by decide +kernel
theorem dX8_load_53 : decode cX8_load 53 = .ok (.invokestatic 250, 3) := by decide +kernel
theorem dX8_load_56 : decode cX8_load 56 = .ok (.istore_n 2, 1) := by decide +kernel
theorem dX8_load_57 : decode cX8_load 57 = .ok (.iconst 0, 1) := by decide +kernel
theorem dX8_load_58 : decode cX8_load 58 = .ok (.istore_n 3, 1) := by decide +kernel
theorem dX8_load_59 : decode cX8_load 59 = .ok (.iload_n 3, 1) := by decide +kernel
theorem dX8_load_60 : decode cX8_load 60 = .ok (.iload_n 2, 1) := by decide +kernel
theorem dX8_load_61 : decode cX8_load 61 = .ok (.if_icmp .ge 47, 3) := by decide +kernel
theorem dX8_load_64 : decode cX8_load 64 = .ok (.aload_n 0, 1) := by decide +kernel
theorem dX8_load_65 : decode cX8_load 65 = .ok (.getfield 51, 3) := by decide +kernel
theorem dX8_load_68 : decode cX8_load 68 = .ok (.iload_n 1, 1) := by decide +kernel
theorem dX8_load_69 : decode cX8_load 69 = .ok (.iload_n 3, 1) := by decide +kernel
theorem dX8_load_70 : decode cX8_load 70 = .ok (.invokevirtual 321, 3) := by decide +kernel
theorem dX8_load_73 : decode cX8_load 73 = .ok (.istore 4, 2) := by decide +kernel
theorem dX8_load_75 : decode cX8_load 75 = .ok (.iload 4, 2) := by decide +kernel
theorem dX8_load_77 : decode cX8_load 77 = .ok (.iconst 0, 1) := by decide +kernel
theorem dX8_load_78 : decode cX8_load 78 = .ok (.bipush 9, 2) := by decide +kernel
theorem dX8_load_80 : decode cX8_load 80 = .ok (.invokestatic 63, 3) := by decide +kernel
theorem dX8_load_83 : decode cX8_load 83 = .ok (.ifCond .ne 5, 3) := by decide +kernel
theorem dX8_load_86 : decode cX8_load 86 = .ok (.iload_n 3, 1) := by decide +kernel
theorem dX8_load_87 : decode cX8_load 87 = .ok (.ireturn, 1) := by decide +kernel
theorem dX8_load_88 : decode cX8_load 88 = .ok (.aload_n 0, 1) := by decide +kernel
theorem dX8_load_89 : decode cX8_load 89 = .ok (.getfield 10, 3) := by decide +kernel
theorem dX8_load_92 : decode cX8_load 92 = .ok (.getfield 71, 3) := by decide +kernel
theorem dX8_load_95 : decode cX8_load 95 = .ok (.getfield 91, 3) := by decide +kernel
theorem dX8_load_98 : decode cX8_load 98 = .ok (.iload_n 3, 1) := by decide +kernel
theorem dX8_load_99 : decode cX8_load 99 = .ok (.iload 4, 2) := by decide +kernel
theorem dX8_load_101 : decode cX8_load 101 = .ok (.iastore, 1) := by decide +kernel
theorem dX8_load_102 : decode cX8_load 102 = .ok (.iinc 3 1, 3) := by decide +kernel
theorem dX8_load_105 : decode cX8_load 105 = .ok (.goto (-46), 3) := by decide +kernel
theorem dX8_load_108 : decode cX8_load 108 = .ok (.iload_n 2, 1) := by decide +kernel
theorem dX8_load_109 : decode cX8_load 109 = .ok (.ireturn, 1) := by decide +kernel
theorem dX8_judge_0 : decode cX8_judge 0 = .ok (.aload_n 0, 1) := by decide +kernel
theorem dX8_judge_1 : decode cX8_judge 1 = .ok (.getfield 51, 3) := by decide +kernel
theorem dX8_judge_4 : decode cX8_judge 4 = .ok (.iload_n 1, 1) := by decide +kernel
theorem dX8_judge_5 : decode cX8_judge 5 = .ok (.invokevirtual 296, 3) := by decide +kernel
theorem dX8_judge_8 : decode cX8_judge 8 = .ok (.ifCond .ne 9, 3) := by decide +kernel
theorem dX8_judge_11 : decode cX8_judge 11 = .ok (.aload_n 0, 1) := by decide +kernel
theorem dX8_judge_12 : decode cX8_judge 12 = .ok (.iconst 0, 1) := by decide +kernel
theorem dX8_judge_13 : decode cX8_judge 13 = .ok (.invokevirtual 67, 3) := by decide +kernel
theorem dX8_judge_16 : decode cX8_judge 16 = .ok (.ireturn, 1) := by decide +kernel
theorem dX8_judge_17 : decode cX8_judge 17 = .ok (.aload_n 0, 1) := by decide +kernel
theorem dX8_judge_18 : decode cX8_judge 18 = .ok (.getfield 51, 3) := by decide +kernel
theorem dX8_judge_21 : decode cX8_judge 21 = .ok (.iload_n 1, 1) := by decide +kernel
theorem dX8_judge_22 : decode cX8_judge 22 = .ok (.invokevirtual 305, 3) := by decide +kernel
theorem dX8_judge_25 : decode cX8_judge 25 = .ok (.ifCond .eq 9, 3) := by decide +kernel
theorem dX8_judge_28 : decode cX8_judge 28 = .ok (.aload_n 0, 1) := by decide +kernel
theorem dX8_judge_29 : decode cX8_judge 29 = .ok (.iconst 5, 1) := by decide +kernel
theorem dX8_judge_30 : decode cX8_judge 30 = .ok (.invokevirtual 67, 3) := by decide +kernel
theorem dX8_judge_33 : decode cX8_judge 33 = .ok (.ireturn, 1) := by decide +kernel
theorem dX8_judge_34 : decode cX8_judge 34 = .ok (.aload_n 0, 1) := by decide +kernel
theorem dX8_judge_35 : decode cX8_judge 35 = .ok (.aload_n 0, 1) := by decide +kernel
theorem dX8_judge_36 : decode cX8_judge 36 = .ok (.getfield 51, 3) := by decide +kernel
theorem dX8_judge_39 : decode cX8_judge 39 = .ok (.getfield 302, 3) := by decide +kernel
theorem dX8_judge_42 : decode cX8_judge 42 = .ok (.iload_n 1, 1) := by decide +kernel
theorem dX8_judge_43 : decode cX8_judge 43 = .ok (.iaload, 1) := by decide +kernel
theorem dX8_judge_44 : decode cX8_judge 44 = .ok (.invokevirtual 199, 3) := by decide +kernel
theorem dX8_judge_47 : decode cX8_judge 47 = .ok (.ifCond .eq 9, 3) := by decide +kernel
theorem dX8_judge_50 : decode cX8_judge 50 = .ok (.aload_n 0, 1) := by decide +kernel
theorem dX8_judge_51 : decode cX8_judge 51 = .ok (.iconst 4, 1) := by decide +kernel
theorem dX8_judge_52 : decode cX8_judge 52 = .ok (.invokevirtual 67, 3) := by decide +kernel
theorem dX8_judge_55 : decode cX8_judge 55 = .ok (.ireturn, 1) := by decide +kernel
theorem dX8_judge_56 : decode cX8_judge 56 = .ok (.aload_n 0, 1) := by decide +kernel
theorem dX8_judge_57 : decode cX8_judge 57 = .ok (.getfield 19, 3) := by decide +kernel
theorem dX8_judge_60 : decode cX8_judge 60 = .ok (.aload_n 0, 1) := by decide +kernel
theorem dX8_judge_61 : decode cX8_judge 61 = .ok (.getfield 10, 3) := by decide +kernel
theorem dX8_judge_64 : decode cX8_judge 64 = .ok (.invokevirtual 227, 3) := by decide +kernel
theorem dX8_judge_67 : decode cX8_judge 67 = .ok (.iconst 0, 1) := by decide +kernel
theorem dX8_judge_68 : decode cX8_judge 68 = .ok (.istore_n 2, 1) := by decide +kernel
theorem dX8_judge_69 : decode cX8_judge 69 = .ok (.iload_n 2, 1) := by decide +kernel
theorem dX8_judge_70 : decode cX8_judge 70 = .ok (.aload_n 0, 1) := by decide +kernel
theorem dX8_judge_71 : decode cX8_judge 71 = .ok (.getfield 51, 3) := by decide +kernel
theorem dX8_judge_74 : decode cX8_judge 74 = .ok (.getfield 302, 3) := by decide +kernel
theorem dX8_judge_77 : decode cX8_judge 77 = .ok (.iload_n 1, 1) := by decide +kernel
theorem dX8_judge_78 : decode cX8_judge 78 = .ok (.iaload, 1) := by decide +kernel
theorem dX8_judge_79 : decode cX8_judge 79 = .ok (.if_icmp .ge 51, 3) := by decide +kernel
theorem dX8_judge_82 : decode cX8_judge 82 = .ok (.aload_n 0, 1) := by decide +kernel
theorem dX8_judge_83 : decode cX8_judge 83 = .ok (.getfield 19, 3) := by decide +kernel
theorem dX8_judge_86 : decode cX8_judge 86 = .ok (.getfield 202, 3) := by decide +kernel
theorem dX8_judge_89 : decode cX8_judge 89 = .ok (.istore_n 3, 1) := by decide +kernel
theorem dX8_judge_90 : decode cX8_judge 90 = .ok (.aload_n 0, 1) := by decide +kernel
theorem dX8_judge_91 : decode cX8_judge 91 = .ok (.getfield 19, 3) := by decide +kernel
theorem dX8_judge_94 : decode cX8_judge 94 = .ok (.iconst 1, 1) := by decide +kernel
theorem dX8_judge_95 : decode cX8_judge 95 = .ok (.invokevirtual 205, 3) := by decide +kernel
theorem dX8_judge_98 : decode cX8_judge 98 = .ok (.pop, 1) := by decide +kernel
theorem dX8_judge_99 : decode cX8_judge 99 = .ok (.aload_n 0, 1) := by decide +kernel
theorem dX8_judge_100 : decode cX8_judge 100 = .ok (.getfield 19, 3) := by decide +kernel
theorem dX8_judge_103 : decode cX8_judge 103 = .ok (.getfield 202, 3) := by decide +kernel
theorem dX8_judge_106 : decode cX8_judge 106 = .ok (.iload_n 3, 1) := by decide +kernel
theorem dX8_judge_107 : decode cX8_judge 107 = .ok (.isub, 1) := by decide +kernel
theorem dX8_judge_108 : decode cX8_judge 108 = .ok (.aload_n 0, 1) := by decide +kernel
theorem dX8_judge_109 : decode cX8_judge 109 = .ok (.getfield 51, 3) := by decide +kernel
theorem dX8_judge_112 : decode cX8_judge 112 = .ok (.iload_n 1, 1) := by decide +kernel
theorem dX8_judge_113 : decode cX8_judge 113 = .ok (.iload_n 2, 1) := by decide +kernel
theorem dX8_judge_114 : decode cX8_judge 114 = .ok (.invokevirtual 321, 3) := by decide +kernel
theorem dX8_judge_117 : decode cX8_judge 117 = .ok (.if_icmp .eq 7, 3) := by decide +kernel
theorem dX8_judge_120 : decode cX8_judge 120 = .ok (.iconst 1, 1) := by decide +kernel
theorem dX8_judge_121 : decode cX8_judge 121 = .ok (.iload_n 2, 1) := by decide +kernel
theorem dX8_judge_122 : decode cX8_judge 122 = .ok (.iadd, 1) := by decide +kernel
theorem dX8_judge_123 : decode cX8_judge 123 = .ok (.ireturn, 1) := by decide +kernel
theorem dX8_judge_124 : decode cX8_judge 124 = .ok (.iinc 2 1, 3) := by decide +kernel
theorem dX8_judge_127 : decode cX8_judge 127 = .ok (.goto (-58), 3) := by decide +kernel
theorem dX8_judge_130 : decode cX8_judge 130 = .ok (.iconst 0, 1) := by decide +kernel
theorem dX8_judge_131 : decode cX8_judge 131 = .ok (.ireturn, 1) := by decide +kernel
theorem dX8_image_0 : decode cX8_image 0 = .ok (.aload_n 0, 1) := by decide +kernel
theorem dX8_image_1 : decode cX8_image 1 = .ok (.getfield 16, 3) := by decide +kernel
theorem dX8_image_4 : decode cX8_image 4 = .ok (.aload_n 0, 1) := by decide +kernel
theorem dX8_image_5 : decode cX8_image 5 = .ok (.getfield 10, 3) := by decide +kernel
theorem dX8_image_8 : decode cX8_image 8 = .ok (.invokevirtual 227, 3) := by decide +kernel
theorem dX8_image_11 : decode cX8_image 11 = .ok (.aload_n 0, 1) := by decide +kernel
theorem dX8_image_12 : decode cX8_image 12 = .ok (.iconst 1, 1) := by decide +kernel
theorem dX8_image_13 : decode cX8_image 13 = .ok (.putfield 59, 3) := by decide +kernel
theorem dX8_image_16 : decode cX8_image 16 = .ok (.iconst 1, 1) := by decide +kernel
theorem dX8_image_17 : decode cX8_image 17 = .ok (.ireturn, 1) := by decide +kernel
theorem dX8_undo_0 : decode cX8_undo 0 = .ok (.aload_n 0, 1) := by decide +kernel
theorem dX8_undo_1 : decode cX8_undo 1 = .ok (.getfield 59, 3) := by decide +kernel
theorem dX8_undo_4 : decode cX8_undo 4 = .ok (.ifCond .ne 9, 3) := by decide +kernel
theorem dX8_undo_7 : decode cX8_undo 7 = .ok (.aload_n 0, 1) := by decide +kernel
theorem dX8_undo_8 : decode cX8_undo 8 = .ok (.iconst 3, 1) := by decide +kernel
theorem dX8_undo_9 : decode cX8_undo 9 = .ok (.invokevirtual 67, 3) := by decide +kernel
theorem dX8_undo_12 : decode cX8_undo 12 = .ok (.ireturn, 1) := by decide +kernel
theorem dX8_undo_13 : decode cX8_undo 13 = .ok (.aload_n 0, 1) := by decide +kernel
theorem dX8_undo_14 : decode cX8_undo 14 = .ok (.getfield 10, 3) := by decide +kernel
theorem dX8_undo_17 : decode cX8_undo 17 = .ok (.aload_n 0, 1) := by decide +kernel
theorem dX8_undo_18 : decode cX8_undo 18 = .ok (.getfield 16, 3) := by decide +kernel
theorem dX8_undo_21 : decode cX8_undo 21 = .ok (.invokevirtual 227, 3) := by decide +kernel
theorem dX8_undo_24 : decode cX8_undo 24 = .ok (.aload_n 0, 1) := by decide +kernel
theorem dX8_undo_25 : decode cX8_undo 25 = .ok (.getfield 10, 3) := by decide +kernel
theorem dX8_undo_28 : decode cX8_undo 28 = .ok (.getfield 208, 3) := by decide +kernel
theorem dX8_undo_31 : decode cX8_undo 31 = .ok (.ireturn, 1) := by decide +kernel
theorem dX8_tear_0 : decode cX8_tear 0 = .ok (.aload_n 0, 1) := by decide +kernel
theorem dX8_tear_1 : decode cX8_tear 1 = .ok (.getfield 59, 3) := by decide +kernel
theorem dX8_tear_4 : decode cX8_tear 4 = .ok (.ifCond .eq 7, 3) := by decide +kernel
theorem dX8_tear_7 : decode cX8_tear 7 = .ok (.iconst 1, 1) := by decide +kernel
theorem dX8_tear_8 : decode cX8_tear 8 = .ok (.goto 4, 3) := by decide +kernel
theorem dX8_tear_11 : decode cX8_tear 11 = .ok (.iconst 0, 1) := by decide +kernel
theorem dX8_tear_12 : decode cX8_tear 12 = .ok (.istore_n 1, 1) := by decide +kernel
theorem dX8_tear_13 : decode cX8_tear 13 = .ok (.aload_n 0, 1) := by decide +kernel
theorem dX8_tear_14 : decode cX8_tear 14 = .ok (.iconst 0, 1) := by decide +kernel
theorem dX8_tear_15 : decode cX8_tear 15 = .ok (.putfield 59, 3) := by decide +kernel
theorem dX8_tear_18 : decode cX8_tear 18 = .ok (.iload_n 1, 1) := by decide +kernel
theorem dX8_tear_19 : decode cX8_tear 19 = .ok (.ireturn, 1) := by decide +kernel
theorem dX8_count_0 : decode cX8_count 0 = .ok (.iload_n 1, 1) := by decide +kernel
theorem dX8_count_1 : decode cX8_count 1 = .ok (.tableswitch 135 0 8 #[51, 62, 73, 84, 95, 103, 111, 119, 127], 51) := by decide +kernel
theorem dX8_count_52 : decode cX8_count 52 = .ok (.aload_n 0, 1) := by decide +kernel
theorem dX8_count_53 : decode cX8_count 53 = .ok (.getfield 10, 3) := by decide +kernel
theorem dX8_count_56 : decode cX8_count 56 = .ok (.getfield 71, 3) := by decide +kernel
theorem dX8_count_59 : decode cX8_count 59 = .ok (.getfield 224, 3) := by decide +kernel
theorem dX8_count_62 : decode cX8_count 62 = .ok (.ireturn, 1) := by decide +kernel
theorem dX8_count_63 : decode cX8_count 63 = .ok (.aload_n 0, 1) := by decide +kernel
theorem dX8_count_64 : decode cX8_count 64 = .ok (.getfield 10, 3) := by decide +kernel
theorem dX8_count_67 : decode cX8_count 67 = .ok (.getfield 171, 3) := by decide +kernel
theorem dX8_count_70 : decode cX8_count 70 = .ok (.getfield 270, 3) := by decide +kernel
theorem dX8_count_73 : decode cX8_count 73 = .ok (.ireturn, 1) := by decide +kernel
theorem dX8_count_74 : decode cX8_count 74 = .ok (.aload_n 0, 1) := by decide +kernel
theorem dX8_count_75 : decode cX8_count 75 = .ok (.getfield 10, 3) := by decide +kernel
theorem dX8_count_78 : decode cX8_count 78 = .ok (.getfield 71, 3) := by decide +kernel
theorem dX8_count_81 : decode cX8_count 81 = .ok (.invokevirtual 324, 3) := by decide +kernel
theorem dX8_count_84 : decode cX8_count 84 = .ok (.ireturn, 1) := by decide +kernel
theorem dX8_count_85 : decode cX8_count 85 = .ok (.aload_n 0, 1) := by decide +kernel
theorem dX8_count_86 : decode cX8_count 86 = .ok (.getfield 10, 3) := by decide +kernel
theorem dX8_count_89 : decode cX8_count 89 = .ok (.getfield 171, 3) := by decide +kernel
theorem dX8_count_92 : decode cX8_count 92 = .ok (.invokevirtual 327, 3) := by decide +kernel
theorem dX8_count_95 : decode cX8_count 95 = .ok (.ireturn, 1) := by decide +kernel
theorem dX8_count_96 : decode cX8_count 96 = .ok (.aload_n 0, 1) := by decide +kernel
theorem dX8_count_97 : decode cX8_count 97 = .ok (.getfield 10, 3) := by decide +kernel
theorem dX8_count_100 : decode cX8_count 100 = .ok (.getfield 111, 3) := by decide +kernel
theorem dX8_count_103 : decode cX8_count 103 = .ok (.ireturn, 1) := by decide +kernel
theorem dX8_count_104 : decode cX8_count 104 = .ok (.aload_n 0, 1) := by decide +kernel
theorem dX8_count_105 : decode cX8_count 105 = .ok (.getfield 10, 3) := by decide +kernel
theorem dX8_count_108 : decode cX8_count 108 = .ok (.getfield 330, 3) := by decide +kernel
theorem dX8_count_111 : decode cX8_count 111 = .ok (.ireturn, 1) := by decide +kernel
theorem dX8_count_112 : decode cX8_count 112 = .ok (.aload_n 0, 1) := by decide +kernel
theorem dX8_count_113 : decode cX8_count 113 = .ok (.getfield 35, 3) := by decide +kernel
theorem dX8_count_116 : decode cX8_count 116 = .ok (.getfield 281, 3) := by decide +kernel
theorem dX8_count_119 : decode cX8_count 119 = .ok (.ireturn, 1) := by decide +kernel
theorem dX8_count_120 : decode cX8_count 120 = .ok (.aload_n 0, 1) := by decide +kernel
theorem dX8_count_121 : decode cX8_count 121 = .ok (.getfield 10, 3) := by decide +kernel
theorem dX8_count_124 : decode cX8_count 124 = .ok (.getfield 274, 3) := by decide +kernel
theorem dX8_count_127 : decode cX8_count 127 = .ok (.ireturn, 1) := by decide +kernel
theorem dX8_count_128 : decode cX8_count 128 = .ok (.aload_n 0, 1) := by decide +kernel
theorem dX8_count_129 : decode cX8_count 129 = .ok (.getfield 10, 3) := by decide +kernel
theorem dX8_count_132 : decode cX8_count 132 = .ok (.invokevirtual 333, 3) := by decide +kernel
theorem dX8_count_135 : decode cX8_count 135 = .ok (.ireturn, 1) := by decide +kernel
theorem dX8_count_136 : decode cX8_count 136 = .ok (.aload_n 0, 1) := by decide +kernel
theorem dX8_count_137 : decode cX8_count 137 = .ok (.iconst 0, 1) := by decide +kernel
theorem dX8_count_138 : decode cX8_count 138 = .ok (.invokevirtual 67, 3) := by decide +kernel
theorem dX8_count_141 : decode cX8_count 141 = .ok (.ireturn, 1) := by decide +kernel
theorem dX8_status_0 : decode cX8_status 0 = .ok (.iload_n 1, 1) := by decide +kernel
theorem dX8_status_1 : decode cX8_status 1 = .ok (.iconst (-1), 1) := by decide +kernel
theorem dX8_status_2 : decode cX8_status 2 = .ok (.bipush 6, 2) := by decide +kernel
theorem dX8_status_4 : decode cX8_status 4 = .ok (.invokestatic 63, 3) := by decide +kernel
theorem dX8_status_7 : decode cX8_status 7 = .ok (.ifCond .ne 9, 3) := by decide +kernel
theorem dX8_status_10 : decode cX8_status 10 = .ok (.aload_n 0, 1) := by decide +kernel
theorem dX8_status_11 : decode cX8_status 11 = .ok (.iconst 0, 1) := by decide +kernel
theorem dX8_status_12 : decode cX8_status 12 = .ok (.invokevirtual 67, 3) := by decide +kernel
theorem dX8_status_15 : decode cX8_status 15 = .ok (.ireturn, 1) := by decide +kernel
theorem dX8_status_16 : decode cX8_status 16 = .ok (.iload_n 1, 1) := by decide +kernel
theorem dX8_status_17 : decode cX8_status 17 = .ok (.ifCond .lt 10, 3) := by decide +kernel
theorem dX8_status_20 : decode cX8_status 20 = .ok (.aload_n 0, 1) := by decide +kernel
theorem dX8_status_21 : decode cX8_status 21 = .ok (.getfield 55, 3) := by decide +kernel
theorem dX8_status_24 : decode cX8_status 24 = .ok (.iload_n 1, 1) := by decide +kernel
theorem dX8_status_25 : decode cX8_status 25 = .ok (.iaload, 1) := by decide +kernel
theorem dX8_status_26 : decode cX8_status 26 = .ok (.ireturn, 1) := by decide +kernel
theorem dX8_status_27 : decode cX8_status 27 = .ok (.iconst 0, 1) := by decide +kernel
theorem dX8_status_28 : decode cX8_status 28 = .ok (.istore_n 2, 1) := by decide +kernel
theorem dX8_status_29 : decode cX8_status 29 = .ok (.iconst 0, 1) := by decide +kernel
theorem dX8_status_30 : decode cX8_status 30 = .ok (.istore_n 3, 1) := by decide +kernel
theorem dX8_status_31 : decode cX8_status 31 = .ok (.iload_n 3, 1) := by decide +kernel
theorem dX8_status_32 : decode cX8_status 32 = .ok (.bipush 7, 2) := by decide +kernel
theorem dX8_status_34 : decode cX8_status 34 = .ok (.if_icmp .ge 18, 3) := by decide +kernel
theorem dX8_status_37 : decode cX8_status 37 = .ok (.iload_n 2, 1) := by decide +kernel
theorem dX8_status_38 : decode cX8_status 38 = .ok (.aload_n 0, 1) := by decide +kernel
theorem dX8_status_39 : decode cX8_status 39 = .ok (.getfield 55, 3) := by decide +kernel
theorem dX8_status_42 : decode cX8_status 42 = .ok (.iload_n 3, 1) := by decide +kernel
theorem dX8_status_43 : decode cX8_status 43 = .ok (.iaload, 1) := by decide +kernel
theorem dX8_status_44 : decode cX8_status 44 = .ok (.iadd, 1) := by decide +kernel
theorem dX8_status_45 : decode cX8_status 45 = .ok (.istore_n 2, 1) := by decide +kernel
theorem dX8_status_46 : decode cX8_status 46 = .ok (.iinc 3 1, 3) := by decide +kernel
theorem dX8_status_49 : decode cX8_status 49 = .ok (.goto (-18), 3) := by decide +kernel
theorem dX8_status_52 : decode cX8_status 52 = .ok (.iload_n 2, 1) := by decide +kernel
theorem dX8_status_53 : decode cX8_status 53 = .ok (.ireturn, 1) := by decide +kernel
theorem dX8_finding_0 : decode cX8_finding 0 = .ok (.aload_n 0, 1) := by decide +kernel
theorem dX8_finding_1 : decode cX8_finding 1 = .ok (.getfield 55, 3) := by decide +kernel
theorem dX8_finding_4 : decode cX8_finding 4 = .ok (.iload_n 1, 1) := by decide +kernel
theorem dX8_finding_5 : decode cX8_finding 5 = .ok (.dup2, 1) := by decide +kernel
theorem dX8_finding_6 : decode cX8_finding 6 = .ok (.iaload, 1) := by decide +kernel
theorem dX8_finding_7 : decode cX8_finding 7 = .ok (.iconst 1, 1) := by decide +kernel
theorem dX8_finding_8 : decode cX8_finding 8 = .ok (.iadd, 1) := by decide +kernel
theorem dX8_finding_9 : decode cX8_finding 9 = .ok (.iastore, 1) := by decide +kernel
theorem dX8_finding_10 : decode cX8_finding 10 = .ok (.ldc_w 336, 3) := by decide +kernel
theorem dX8_finding_13 : decode cX8_finding 13 = .ok (.iload_n 1, 1) := by decide +kernel
theorem dX8_finding_14 : decode cX8_finding 14 = .ok (.isub, 1) := by decide +kernel
theorem dX8_finding_15 : decode cX8_finding 15 = .ok (.ireturn, 1) := by decide +kernel
theorem dX8_within_0 : decode cX8_within 0 = .ok (.iload_n 0, 1) := by decide +kernel
theorem dX8_within_1 : decode cX8_within 1 = .ok (.iload_n 1, 1) := by decide +kernel
theorem dX8_within_2 : decode cX8_within 2 = .ok (.if_icmp .lt 12, 3) := by decide +kernel
theorem dX8_within_5 : decode cX8_within 5 = .ok (.iload_n 0, 1) := by decide +kernel
theorem dX8_within_6 : decode cX8_within 6 = .ok (.iload_n 2, 1) := by decide +kernel
theorem dX8_within_7 : decode cX8_within 7 = .ok (.if_icmp .gt 7, 3) := by decide +kernel
theorem dX8_within_10 : decode cX8_within 10 = .ok (.iconst 1, 1) := by decide +kernel
theorem dX8_within_11 : decode cX8_within 11 = .ok (.goto 4, 3) := by decide +kernel
theorem dX8_within_14 : decode cX8_within 14 = .ok (.iconst 0, 1) := by decide +kernel
theorem dX8_within_15 : decode cX8_within 15 = .ok (.ireturn, 1) := by decide +kernel
theorem dX8_isBatch_0 : decode cX8_isBatch 0 = .ok (.iload_n 1, 1) := by decide +kernel
theorem dX8_isBatch_1 : decode cX8_isBatch 1 = .ok (.ifCond .lt 21, 3) := by decide +kernel
theorem dX8_isBatch_4 : decode cX8_isBatch 4 = .ok (.iload_n 1, 1) := by decide +kernel
theorem dX8_isBatch_5 : decode cX8_isBatch 5 = .ok (.aload_n 0, 1) := by decide +kernel
theorem dX8_isBatch_6 : decode cX8_isBatch 6 = .ok (.getfield 10, 3) := by decide +kernel
theorem dX8_isBatch_9 : decode cX8_isBatch 9 = .ok (.getfield 71, 3) := by decide +kernel
theorem dX8_isBatch_12 : decode cX8_isBatch 12 = .ok (.getfield 224, 3) := by decide +kernel
theorem dX8_isBatch_15 : decode cX8_isBatch 15 = .ok (.if_icmp .ge 7, 3) := by decide +kernel
theorem dX8_isBatch_18 : decode cX8_isBatch 18 = .ok (.iconst 1, 1) := by decide +kernel
theorem dX8_isBatch_19 : decode cX8_isBatch 19 = .ok (.goto 4, 3) := by decide +kernel
theorem dX8_isBatch_22 : decode cX8_isBatch 22 = .ok (.iconst 0, 1) := by decide +kernel
theorem dX8_isBatch_23 : decode cX8_isBatch 23 = .ok (.ireturn, 1) := by decide +kernel
theorem dX8_isCrowd_0 : decode cX8_isCrowd 0 = .ok (.iload_n 1, 1) := by decide +kernel
theorem dX8_isCrowd_1 : decode cX8_isCrowd 1 = .ok (.ifCond .lt 21, 3) := by decide +kernel
theorem dX8_isCrowd_4 : decode cX8_isCrowd 4 = .ok (.iload_n 1, 1) := by decide +kernel
theorem dX8_isCrowd_5 : decode cX8_isCrowd 5 = .ok (.aload_n 0, 1) := by decide +kernel
theorem dX8_isCrowd_6 : decode cX8_isCrowd 6 = .ok (.getfield 10, 3) := by decide +kernel
theorem dX8_isCrowd_9 : decode cX8_isCrowd 9 = .ok (.getfield 171, 3) := by decide +kernel
theorem dX8_isCrowd_12 : decode cX8_isCrowd 12 = .ok (.getfield 270, 3) := by decide +kernel
theorem dX8_isCrowd_15 : decode cX8_isCrowd 15 = .ok (.if_icmp .ge 7, 3) := by decide +kernel
theorem dX8_isCrowd_18 : decode cX8_isCrowd 18 = .ok (.iconst 1, 1) := by decide +kernel
theorem dX8_isCrowd_19 : decode cX8_isCrowd 19 = .ok (.goto 4, 3) := by decide +kernel
theorem dX8_isCrowd_22 : decode cX8_isCrowd 22 = .ok (.iconst 0, 1) := by decide +kernel
theorem dX8_isCrowd_23 : decode cX8_isCrowd 23 = .ok (.ireturn, 1) := by decide +kernel
theorem dX8_isCorner_0 : decode cX8_isCorner 0 = .ok (.iload_n 0, 1) := by decide +kernel
theorem dX8_isCorner_1 : decode cX8_isCorner 1 = .ok (.iconst 0, 1) := by decide +kernel
theorem dX8_isCorner_2 : decode cX8_isCorner 2 = .ok (.iconst 3, 1) := by decide +kernel
theorem dX8_isCorner_3 : decode cX8_isCorner 3 = .ok (.invokestatic 63, 3) := by decide +kernel
theorem dX8_isCorner_6 : decode cX8_isCorner 6 = .ok (.ireturn, 1) := by decide +kernel
theorem dX8_isSpot_0 : decode cX8_isSpot 0 = .ok (.iload_n 0, 1) := by decide +kernel
theorem dX8_isSpot_1 : decode cX8_isSpot 1 = .ok (.iconst 0, 1) := by decide +kernel
theorem dX8_isSpot_2 : decode cX8_isSpot 2 = .ok (.bipush 9, 2) := by decide +kernel
theorem dX8_isSpot_4 : decode cX8_isSpot 4 = .ok (.invokestatic 63, 3) := by decide +kernel
theorem dX8_isSpot_7 : decode cX8_isSpot 7 = .ok (.ireturn, 1) := by decide +kernel
theorem dX8_isPlan_0 : decode cX8_isPlan 0 = .ok (.iload_n 0, 1) := by decide +kernel
theorem dX8_isPlan_1 : decode cX8_isPlan 1 = .ok (.iconst 1, 1) := by decide +kernel
theorem dX8_isPlan_2 : decode cX8_isPlan 2 = .ok (.bipush 120, 2) := by decide +kernel
theorem dX8_isPlan_4 : decode cX8_isPlan 4 = .ok (.invokestatic 63, 3) := by decide +kernel
theorem dX8_isPlan_7 : decode cX8_isPlan 7 = .ok (.ireturn, 1) := by decide +kernel
theorem dX8_isTooLate_0 : decode cX8_isTooLate 0 = .ok (.aload_n 0, 1) := by decide +kernel
theorem dX8_isTooLate_1 : decode cX8_isTooLate 1 = .ok (.getfield 10, 3) := by decide +kernel
theorem dX8_isTooLate_4 : decode cX8_isTooLate 4 = .ok (.getfield 208, 3) := by decide +kernel
theorem dX8_isTooLate_7 : decode cX8_isTooLate 7 = .ok (.iload_n 1, 1) := by decide +kernel
theorem dX8_isTooLate_8 : decode cX8_isTooLate 8 = .ok (.iadd, 1) := by decide +kernel
theorem dX8_isTooLate_9 : decode cX8_isTooLate 9 = .ok (.sipush 999, 3) := by decide +kernel
theorem dX8_isTooLate_12 : decode cX8_isTooLate 12 = .ok (.if_icmp .le 7, 3) := by decide +kernel
theorem dX8_isTooLate_15 : decode cX8_isTooLate 15 = .ok (.iconst 1, 1) := by decide +kernel
theorem dX8_isTooLate_16 : decode cX8_isTooLate 16 = .ok (.goto 4, 3) := by decide +kernel
theorem dX8_isTooLate_19 : decode cX8_isTooLate 19 = .ok (.iconst 0, 1) := by decide +kernel
theorem dX8_isTooLate_20 : decode cX8_isTooLate 20 = .ok (.ireturn, 1) := by decide +kernel
theorem dX8_mostOfRule_0 : decode cX8_mostOfRule 0 = .ok (.iload_n 0, 1) := by decide +kernel
theorem dX8_mostOfRule_1 : decode cX8_mostOfRule 1 = .ok (.lookupswitch 33 #[(0, 27), (1, 30)], 27) := by decide +kernel
theorem dX8_mostOfRule_28 : decode cX8_mostOfRule 28 = .ok (.bipush 20, 2) := by decide +kernel
theorem dX8_mostOfRule_30 : decode cX8_mostOfRule 30 = .ok (.ireturn, 1) := by decide +kernel
theorem dX8_mostOfRule_31 : decode cX8_mostOfRule 31 = .ok (.bipush 99, 2) := by decide +kernel
theorem dX8_mostOfRule_33 : decode cX8_mostOfRule 33 = .ok (.ireturn, 1) := by decide +kernel
theorem dX8_mostOfRule_34 : decode cX8_mostOfRule 34 = .ok (.bipush 9, 2) := by decide +kernel
theorem dX8_mostOfRule_36 : decode cX8_mostOfRule 36 = .ok (.ireturn, 1) := by decide +kernel
theorem dX8_exchange_0 : decode cX8_exchange 0 = .ok (.iload_n 3, 1) := by decide +kernel
theorem dX8_exchange_1 : decode cX8_exchange 1 = .ok (.iconst 0, 1) := by decide +kernel
theorem dX8_exchange_2 : decode cX8_exchange 2 = .ok (.iload 4, 2) := by decide +kernel
theorem dX8_exchange_4 : decode cX8_exchange 4 = .ok (.invokestatic 63, 3) := by decide +kernel
theorem dX8_exchange_7 : decode cX8_exchange 7 = .ok (.ifCond .ne 9, 3) := by decide +kernel
theorem dX8_exchange_10 : decode cX8_exchange 10 = .ok (.aload_n 0, 1) := by decide +kernel
theorem dX8_exchange_11 : decode cX8_exchange 11 = .ok (.iconst 0, 1) := by decide +kernel
theorem dX8_exchange_12 : decode cX8_exchange 12 = .ok (.invokevirtual 67, 3) := by decide +kernel
theorem dX8_exchange_15 : decode cX8_exchange 15 = .ok (.ireturn, 1) := by decide +kernel
theorem dX8_exchange_16 : decode cX8_exchange 16 = .ok (.aload_n 1, 1) := by decide +kernel
theorem dX8_exchange_17 : decode cX8_exchange 17 = .ok (.iload_n 2, 1) := by decide +kernel
theorem dX8_exchange_18 : decode cX8_exchange 18 = .ok (.iaload, 1) := by decide +kernel
theorem dX8_exchange_19 : decode cX8_exchange 19 = .ok (.istore 5, 2) := by decide +kernel
theorem dX8_exchange_21 : decode cX8_exchange 21 = .ok (.aload_n 1, 1) := by decide +kernel
theorem dX8_exchange_22 : decode cX8_exchange 22 = .ok (.iload_n 2, 1) := by decide +kernel
theorem dX8_exchange_23 : decode cX8_exchange 23 = .ok (.iload_n 3, 1) := by decide +kernel
theorem dX8_exchange_24 : decode cX8_exchange 24 = .ok (.iastore, 1) := by decide +kernel
theorem dX8_exchange_25 : decode cX8_exchange 25 = .ok (.iload 5, 2) := by decide +kernel
theorem dX8_exchange_27 : decode cX8_exchange 27 = .ok (.ireturn, 1) := by decide +kernel
theorem dX8_minutesToReady_0 : decode cX8_minutesToReady 0 = .ok (.iconst 0, 1) := by decide +kernel
theorem dX8_minutesToReady_1 : decode cX8_minutesToReady 1 = .ok (.istore_n 3, 1) := by decide +kernel
theorem dX8_minutesToReady_2 : decode cX8_minutesToReady 2 = .ok (.iload_n 3, 1) := by decide +kernel
theorem dX8_minutesToReady_3 : decode cX8_minutesToReady 3 = .ok (.iload_n 2, 1) := by decide +kernel
theorem dX8_minutesToReady_4 : decode cX8_minutesToReady 4 = .ok (.if_icmp .ge 34, 3) := by decide +kernel
theorem dX8_minutesToReady_7 : decode cX8_minutesToReady 7 = .ok (.aload_n 0, 1) := by decide +kernel
theorem dX8_minutesToReady_8 : decode cX8_minutesToReady 8 = .ok (.getfield 19, 3) := by decide +kernel
theorem dX8_minutesToReady_11 : decode cX8_minutesToReady 11 = .ok (.getfield 71, 3) := by decide +kernel
theorem dX8_minutesToReady_14 : decode cX8_minutesToReady 14 = .ok (.iload_n 1, 1) := by decide +kernel
theorem dX8_minutesToReady_15 : decode cX8_minutesToReady 15 = .ok (.invokevirtual 141, 3) := by decide +kernel
theorem dX8_minutesToReady_18 : decode cX8_minutesToReady 18 = .ok (.ifCond .eq 5, 3) := by decide +kernel
theorem dX8_minutesToReady_21 : decode cX8_minutesToReady 21 = .ok (.iload_n 3, 1) := by decide +kernel
theorem dX8_minutesToReady_22 : decode cX8_minutesToReady 22 = .ok (.ireturn, 1) := by decide +kernel
theorem dX8_minutesToReady_23 : decode cX8_minutesToReady 23 = .ok (.aload_n 0, 1) := by decide +kernel
theorem dX8_minutesToReady_24 : decode cX8_minutesToReady 24 = .ok (.getfield 19, 3) := by decide +kernel
theorem dX8_minutesToReady_27 : decode cX8_minutesToReady 27 = .ok (.iconst 1, 1) := by decide +kernel
theorem dX8_minutesToReady_28 : decode cX8_minutesToReady 28 = .ok (.invokevirtual 205, 3) := by decide +kernel
theorem dX8_minutesToReady_31 : decode cX8_minutesToReady 31 = .ok (.pop, 1) := by decide +kernel
theorem dX8_minutesToReady_32 : decode cX8_minutesToReady 32 = .ok (.iinc 3 1, 3) := by decide +kernel
theorem dX8_minutesToReady_35 : decode cX8_minutesToReady 35 = .ok (.goto (-33), 3) := by decide +kernel
theorem dX8_minutesToReady_38 : decode cX8_minutesToReady 38 = .ok (.aload_n 0, 1) := by decide +kernel
theorem dX8_minutesToReady_39 : decode cX8_minutesToReady 39 = .ok (.getfield 19, 3) := by decide +kernel
theorem dX8_minutesToReady_42 : decode cX8_minutesToReady 42 = .ok (.getfield 71, 3) := by decide +kernel
theorem dX8_minutesToReady_45 : decode cX8_minutesToReady 45 = .ok (.iload_n 1, 1) := by decide +kernel
theorem dX8_minutesToReady_46 : decode cX8_minutesToReady 46 = .ok (.invokevirtual 141, 3) := by decide +kernel
theorem dX8_minutesToReady_49 : decode cX8_minutesToReady 49 = .ok (.ifCond .eq 7, 3) := by decide +kernel
theorem dX8_minutesToReady_52 : decode cX8_minutesToReady 52 = .ok (.iload_n 2, 1) := by decide +kernel
theorem dX8_minutesToReady_53 : decode cX8_minutesToReady 53 = .ok (.goto 4, 3) := by decide +kernel
theorem dX8_minutesToReady_56 : decode cX8_minutesToReady 56 = .ok (.iconst (-1), 1) := by decide +kernel
theorem dX8_minutesToReady_57 : decode cX8_minutesToReady 57 = .ok (.ireturn, 1) := by decide +kernel
theorem dX8_isReadyJustAt_0 : decode cX8_isReadyJustAt 0 = .ok (.iload_n 2, 1) := by decide +kernel
theorem dX8_isReadyJustAt_1 : decode cX8_isReadyJustAt 1 = .ok (.aload_n 0, 1) := by decide +kernel
theorem dX8_isReadyJustAt_2 : decode cX8_isReadyJustAt 2 = .ok (.getfield 22, 3) := by decide +kernel
theorem dX8_isReadyJustAt_5 : decode cX8_isReadyJustAt 5 = .ok (.getfield 208, 3) := by decide +kernel
theorem dX8_isReadyJustAt_8 : decode cX8_isReadyJustAt 8 = .ok (.isub, 1) := by decide +kernel
theorem dX8_isReadyJustAt_9 : decode cX8_isReadyJustAt 9 = .ok (.istore_n 3, 1) := by decide +kernel
theorem dX8_isReadyJustAt_10 : decode cX8_isReadyJustAt 10 = .ok (.iload_n 3, 1) := by decide +kernel
theorem dX8_isReadyJustAt_11 : decode cX8_isReadyJustAt 11 = .ok (.iconst 0, 1) := by decide +kernel
theorem dX8_isReadyJustAt_12 : decode cX8_isReadyJustAt 12 = .ok (.sipush 200, 3) := by decide +kernel
theorem dX8_isReadyJustAt_15 : decode cX8_isReadyJustAt 15 = .ok (.invokestatic 63, 3) := by decide +kernel
theorem dX8_isReadyJustAt_18 : decode cX8_isReadyJustAt 18 = .ok (.ifCond .ne 5, 3) := by decide +kernel
theorem dX8_isReadyJustAt_21 : decode cX8_isReadyJustAt 21 = .ok (.iconst 0, 1) := by decide +kernel
theorem dX8_isReadyJustAt_22 : decode cX8_isReadyJustAt 22 = .ok (.ireturn, 1) := by decide +kernel
theorem dX8_isReadyJustAt_23 : decode cX8_isReadyJustAt 23 = .ok (.aload_n 0, 1) := by decide +kernel
theorem dX8_isReadyJustAt_24 : decode cX8_isReadyJustAt 24 = .ok (.getfield 19, 3) := by decide +kernel
theorem dX8_isReadyJustAt_27 : decode cX8_isReadyJustAt 27 = .ok (.aload_n 0, 1) := by decide +kernel
theorem dX8_isReadyJustAt_28 : decode cX8_isReadyJustAt 28 = .ok (.getfield 22, 3) := by decide +kernel
theorem dX8_isReadyJustAt_31 : decode cX8_isReadyJustAt 31 = .ok (.invokevirtual 227, 3) := by decide +kernel
theorem dX8_isReadyJustAt_34 : decode cX8_isReadyJustAt 34 = .ok (.aload_n 0, 1) := by decide +kernel
theorem dX8_isReadyJustAt_35 : decode cX8_isReadyJustAt 35 = .ok (.getfield 19, 3) := by decide +kernel
theorem dX8_isReadyJustAt_38 : decode cX8_isReadyJustAt 38 = .ok (.getfield 71, 3) := by decide +kernel
theorem dX8_isReadyJustAt_41 : decode cX8_isReadyJustAt 41 = .ok (.iload_n 1, 1) := by decide +kernel
theorem dX8_isReadyJustAt_42 : decode cX8_isReadyJustAt 42 = .ok (.iconst 1, 1) := by decide +kernel
theorem dX8_isReadyJustAt_43 : decode cX8_isReadyJustAt 43 = .ok (.invokevirtual 129, 3) := by decide +kernel
theorem dX8_isReadyJustAt_46 : decode cX8_isReadyJustAt 46 = .ok (.pop, 1) := by decide +kernel
theorem dX8_isReadyJustAt_47 : decode cX8_isReadyJustAt 47 = .ok (.aload_n 0, 1) := by decide +kernel
theorem dX8_isReadyJustAt_48 : decode cX8_isReadyJustAt 48 = .ok (.iload_n 1, 1) := by decide +kernel
theorem dX8_isReadyJustAt_49 : decode cX8_isReadyJustAt 49 = .ok (.iload_n 3, 1) := by decide +kernel
theorem dX8_isReadyJustAt_50 : decode cX8_isReadyJustAt 50 = .ok (.invokevirtual 237, 3) := by decide +kernel
theorem dX8_isReadyJustAt_53 : decode cX8_isReadyJustAt 53 = .ok (.iload_n 3, 1) := by decide +kernel
theorem dX8_isReadyJustAt_54 : decode cX8_isReadyJustAt 54 = .ok (.if_icmp .ne 7, 3) := by decide +kernel
theorem dX8_isReadyJustAt_57 : decode cX8_isReadyJustAt 57 = .ok (.iconst 1, 1) := by decide +kernel
theorem dX8_isReadyJustAt_58 : decode cX8_isReadyJustAt 58 = .ok (.goto 4, 3) := by decide +kernel
theorem dX8_isReadyJustAt_61 : decode cX8_isReadyJustAt 61 = .ok (.iconst 0, 1) := by decide +kernel
theorem dX8_isReadyJustAt_62 : decode cX8_isReadyJustAt 62 = .ok (.ireturn, 1) := by decide +kernel
theorem dX8_coinTakenOff_0 : decode cX8_coinTakenOff 0 = .ok (.aload_n 0, 1) := by decide +kernel
theorem dX8_coinTakenOff_1 : decode cX8_coinTakenOff 1 = .ok (.getfield 19, 3) := by decide +kernel
theorem dX8_coinTakenOff_4 : decode cX8_coinTakenOff 4 = .ok (.aload_n 0, 1) := by decide +kernel
theorem dX8_coinTakenOff_5 : decode cX8_coinTakenOff 5 = .ok (.getfield 22, 3) := by decide +kernel
theorem dX8_coinTakenOff_8 : decode cX8_coinTakenOff 8 = .ok (.invokevirtual 227, 3) := by decide +kernel
theorem dX8_coinTakenOff_11 : decode cX8_coinTakenOff 11 = .ok (.iload_n 2, 1) := by decide +kernel
theorem dX8_coinTakenOff_12 : decode cX8_coinTakenOff 12 = .ok (.ifCond .le 30, 3) := by decide +kernel
theorem dX8_coinTakenOff_15 : decode cX8_coinTakenOff 15 = .ok (.aload_n 0, 1) := by decide +kernel
theorem dX8_coinTakenOff_16 : decode cX8_coinTakenOff 16 = .ok (.getfield 19, 3) := by decide +kernel
theorem dX8_coinTakenOff_19 : decode cX8_coinTakenOff 19 = .ok (.getfield 71, 3) := by decide +kernel
theorem dX8_coinTakenOff_22 : decode cX8_coinTakenOff 22 = .ok (.iload_n 1, 1) := by decide +kernel
theorem dX8_coinTakenOff_23 : decode cX8_coinTakenOff 23 = .ok (.invokevirtual 135, 3) := by decide +kernel
theorem dX8_coinTakenOff_26 : decode cX8_coinTakenOff 26 = .ok (.ifCond .ne 16, 3) := by decide +kernel
theorem dX8_coinTakenOff_29 : decode cX8_coinTakenOff 29 = .ok (.aload_n 0, 1) := by decide +kernel
theorem dX8_coinTakenOff_30 : decode cX8_coinTakenOff 30 = .ok (.getfield 19, 3) := by decide +kernel
theorem dX8_coinTakenOff_33 : decode cX8_coinTakenOff 33 = .ok (.getfield 71, 3) := by decide +kernel
theorem dX8_coinTakenOff_36 : decode cX8_coinTakenOff 36 = .ok (.iload_n 1, 1) := by decide +kernel
theorem dX8_coinTakenOff_37 : decode cX8_coinTakenOff 37 = .ok (.iconst 3, 1) := by decide +kernel
theorem dX8_coinTakenOff_38 : decode cX8_coinTakenOff 38 = .ok (.invokevirtual 129, 3) := by decide +kernel
theorem dX8_coinTakenOff_41 : decode cX8_coinTakenOff 41 = .ok (.pop, 1) := by decide +kernel
theorem dX8_coinTakenOff_42 : decode cX8_coinTakenOff 42 = .ok (.aload_n 0, 1) := by decide +kernel
theorem dX8_coinTakenOff_43 : decode cX8_coinTakenOff 43 = .ok (.getfield 19, 3) := by decide +kernel
theorem dX8_coinTakenOff_46 : decode cX8_coinTakenOff 46 = .ok (.iload_n 2, 1) := by decide +kernel
theorem dX8_coinTakenOff_47 : decode cX8_coinTakenOff 47 = .ok (.invokevirtual 205, 3) := by decide +kernel
theorem dX8_coinTakenOff_50 : decode cX8_coinTakenOff 50 = .ok (.pop, 1) := by decide +kernel
theorem dX8_coinTakenOff_51 : decode cX8_coinTakenOff 51 = .ok (.aload_n 0, 1) := by decide +kernel
theorem dX8_coinTakenOff_52 : decode cX8_coinTakenOff 52 = .ok (.getfield 19, 3) := by decide +kernel
theorem dX8_coinTakenOff_55 : decode cX8_coinTakenOff 55 = .ok (.getfield 210, 3) := by decide +kernel
theorem dX8_coinTakenOff_58 : decode cX8_coinTakenOff 58 = .ok (.aload_n 0, 1) := by decide +kernel
theorem dX8_coinTakenOff_59 : decode cX8_coinTakenOff 59 = .ok (.getfield 10, 3) := by decide +kernel
theorem dX8_coinTakenOff_62 : decode cX8_coinTakenOff 62 = .ok (.getfield 210, 3) := by decide +kernel
theorem dX8_coinTakenOff_65 : decode cX8_coinTakenOff 65 = .ok (.isub, 1) := by decide +kernel
theorem dX8_coinTakenOff_66 : decode cX8_coinTakenOff 66 = .ok (.ireturn, 1) := by decide +kernel
theorem dX8_coinFromCorner_0 : decode cX8_coinFromCorner 0 = .ok (.aload_n 0, 1) := by decide +kernel
theorem dX8_coinFromCorner_1 : decode cX8_coinFromCorner 1 = .ok (.getfield 19, 3) := by decide +kernel
theorem dX8_coinFromCorner_4 : decode cX8_coinFromCorner 4 = .ok (.aload_n 0, 1) := by decide +kernel
theorem dX8_coinFromCorner_5 : decode cX8_coinFromCorner 5 = .ok (.getfield 22, 3) := by decide +kernel
theorem dX8_coinFromCorner_8 : decode cX8_coinFromCorner 8 = .ok (.invokevirtual 227, 3) := by decide +kernel
theorem dX8_coinFromCorner_11 : decode cX8_coinFromCorner 11 = .ok (.aload_n 0, 1) := by decide +kernel
theorem dX8_coinFromCorner_12 : decode cX8_coinFromCorner 12 = .ok (.getfield 19, 3) := by decide +kernel
theorem dX8_coinFromCorner_15 : decode cX8_coinFromCorner 15 = .ok (.getfield 165, 3) := by decide +kernel
theorem dX8_coinFromCorner_18 : decode cX8_coinFromCorner 18 = .ok (.ifCond .ne 11, 3) := by decide +kernel
theorem dX8_coinFromCorner_21 : decode cX8_coinFromCorner 21 = .ok (.aload_n 0, 1) := by decide +kernel
theorem dX8_coinFromCorner_22 : decode cX8_coinFromCorner 22 = .ok (.getfield 19, 3) := by decide +kernel
theorem dX8_coinFromCorner_25 : decode cX8_coinFromCorner 25 = .ok (.iload_n 1, 1) := by decide +kernel
theorem dX8_coinFromCorner_26 : decode cX8_coinFromCorner 26 = .ok (.invokevirtual 168, 3) := by decide +kernel
theorem dX8_coinFromCorner_29 : decode cX8_coinFromCorner 29 = .ok (.aload_n 0, 1) := by decide +kernel
theorem dX8_coinFromCorner_30 : decode cX8_coinFromCorner 30 = .ok (.getfield 19, 3) := by decide +kernel
theorem dX8_coinFromCorner_33 : decode cX8_coinFromCorner 33 = .ok (.iload_n 2, 1) := by decide +kernel
theorem dX8_coinFromCorner_34 : decode cX8_coinFromCorner 34 = .ok (.invokevirtual 205, 3) := by decide +kernel
theorem dX8_coinFromCorner_37 : decode cX8_coinFromCorner 37 = .ok (.ireturn, 1) := by decide +kernel
theorem dX8_coinWithout_0 : decode cX8_coinWithout 0 = .ok (.aload_n 0, 1) := by decide +kernel
theorem dX8_coinWithout_1 : decode cX8_coinWithout 1 = .ok (.getfield 19, 3) := by decide +kernel
theorem dX8_coinWithout_4 : decode cX8_coinWithout 4 = .ok (.aload_n 0, 1) := by decide +kernel
theorem dX8_coinWithout_5 : decode cX8_coinWithout 5 = .ok (.getfield 10, 3) := by decide +kernel
theorem dX8_coinWithout_8 : decode cX8_coinWithout 8 = .ok (.invokevirtual 227, 3) := by decide +kernel
theorem dX8_coinWithout_11 : decode cX8_coinWithout 11 = .ok (.aload_n 0, 1) := by decide +kernel
theorem dX8_coinWithout_12 : decode cX8_coinWithout 12 = .ok (.getfield 19, 3) := by decide +kernel
theorem dX8_coinWithout_15 : decode cX8_coinWithout 15 = .ok (.getfield 171, 3) := by decide +kernel
theorem dX8_coinWithout_18 : decode cX8_coinWithout 18 = .ok (.getfield 190, 3) := by decide +kernel
theorem dX8_coinWithout_21 : decode cX8_coinWithout 21 = .ok (.iload_n 1, 1) := by decide +kernel
theorem dX8_coinWithout_22 : decode cX8_coinWithout 22 = .ok (.iconst 0, 1) := by decide +kernel
theorem dX8_coinWithout_23 : decode cX8_coinWithout 23 = .ok (.iastore, 1) := by decide +kernel
theorem dX8_coinWithout_24 : decode cX8_coinWithout 24 = .ok (.aload_n 0, 1) := by decide +kernel
theorem dX8_coinWithout_25 : decode cX8_coinWithout 25 = .ok (.getfield 19, 3) := by decide +kernel
theorem dX8_coinWithout_28 : decode cX8_coinWithout 28 = .ok (.iload_n 2, 1) := by decide +kernel
theorem dX8_coinWithout_29 : decode cX8_coinWithout 29 = .ok (.invokevirtual 205, 3) := by decide +kernel
theorem dX8_coinWithout_32 : decode cX8_coinWithout 32 = .ok (.ireturn, 1) := by decide +kernel
theorem dX9_init_0 : decode cX9_init 0 = .ok (.aload_n 0, 1) := by decide +kernel
theorem dX9_init_1 : decode cX9_init 1 = .ok (.invokespecial 1, 3) := by decide +kernel
theorem dX9_init_4 : decode cX9_init 4 = .ok (.aload_n 0, 1) := by decide +kernel
theorem dX9_init_5 : decode cX9_init 5 = .ok (.bipush 116, 2) := by decide +kernel
theorem dX9_init_7 : decode cX9_init 7 = .ok (.newarray .int, 2) := by decide +kernel
theorem dX9_init_9 : decode cX9_init 9 = .ok (.putfield 7, 3) := by decide +kernel
theorem dX9_init_12 : decode cX9_init 12 = .ok (.aload_n 0, 1) := by decide +kernel
theorem dX9_init_13 : decode cX9_init 13 = .ok (.bipush 116, 2) := by decide +kernel
theorem dX9_init_15 : decode cX9_init 15 = .ok (.newarray .int, 2) := by decide +kernel
theorem dX9_init_17 : decode cX9_init 17 = .ok (.putfield 13, 3) := by decide +kernel
theorem dX9_init_20 : decode cX9_init 20 = .ok (.aload_n 0, 1) := by decide +kernel
theorem dX9_init_21 : decode cX9_init 21 = .ok (.bipush 116, 2) := by decide +kernel
theorem dX9_init_23 : decode cX9_init 23 = .ok (.newarray .int, 2) := by decide +kernel
theorem dX9_init_25 : decode cX9_init 25 = .ok (.putfield 16, 3) := by decide +kernel
theorem dX9_init_28 : decode cX9_init 28 = .ok (.aload_n 0, 1) := by decide +kernel
theorem dX9_init_29 : decode cX9_init 29 = .ok (.bipush 7, 2) := by decide +kernel
theorem dX9_init_31 : decode cX9_init 31 = .ok (.newarray .int, 2) := by decide +kernel
theorem dX9_init_33 : decode cX9_init 33 = .ok (.putfield 19, 3) := by decide +kernel
theorem dX9_init_36 : decode cX9_init 36 = .ok (.aload_n 0, 1) := by decide +kernel
theorem dX9_init_37 : decode cX9_init 37 = .ok (.bipush 120, 2) := by decide +kernel
theorem dX9_init_39 : decode cX9_init 39 = .ok (.newarray .int, 2) := by decide +kernel
theorem dX9_init_41 : decode cX9_init 41 = .ok (.putfield 22, 3) := by decide +kernel
theorem dX9_init_44 : decode cX9_init 44 = .ok (.aload_n 0, 1) := by decide +kernel
theorem dX9_init_45 : decode cX9_init 45 = .ok (.iconst 4, 1) := by decide +kernel
theorem dX9_init_46 : decode cX9_init 46 = .ok (.newarray .int, 2) := by decide +kernel
theorem dX9_init_48 : decode cX9_init 48 = .ok (.putfield 25, 3) := by decide +kernel
theorem dX9_init_51 : decode cX9_init 51 = .ok (.aload_n 0, 1) := by decide +kernel
theorem dX9_init_52 : decode cX9_init 52 = .ok (.iconst 4, 1) := by decide +kernel
theorem dX9_init_53 : decode cX9_init 53 = .ok (.newarray .int, 2) := by decide +kernel
theorem dX9_init_55 : decode cX9_init 55 = .ok (.putfield 28, 3) := by decide +kernel
theorem dX9_init_58 : decode cX9_init 58 = .ok (.aload_n 0, 1) := by decide +kernel
theorem dX9_init_59 : decode cX9_init 59 = .ok (.sipush 160, 3) := by decide +kernel
theorem dX9_init_62 : decode cX9_init 62 = .ok (.newarray .int, 2) := by decide +kernel
theorem dX9_init_64 : decode cX9_init 64 = .ok (.putfield 31, 3) := by decide +kernel
theorem dX9_init_67 : decode cX9_init 67 = .ok (.aload_n 0, 1) := by decide +kernel
theorem dX9_init_68 : decode cX9_init 68 = .ok (.bipush 40, 2) := by decide +kernel
theorem dX9_init_70 : decode cX9_init 70 = .ok (.newarray .int, 2) := by decide +kernel
theorem dX9_init_72 : decode cX9_init 72 = .ok (.putfield 34, 3) := by decide +kernel
theorem dX9_init_75 : decode cX9_init 75 = .ok (.aload_n 0, 1) := by decide +kernel
theorem dX9_init_76 : decode cX9_init 76 = .ok (.getfield 7, 3) := by decide +kernel
theorem dX9_init_79 : decode cX9_init 79 = .ok (.iconst 3, 1) := by decide +kernel
theorem dX9_init_80 : decode cX9_init 80 = .ok (.iconst 1, 1) := by decide +kernel
theorem dX9_init_81 : decode cX9_init 81 = .ok (.iastore, 1) := by decide +kernel
theorem dX9_init_82 : decode cX9_init 82 = .ok (.aload_n 0, 1) := by decide +kernel
theorem dX9_init_83 : decode cX9_init 83 = .ok (.getfield 7, 3) := by decide +kernel
theorem dX9_init_86 : decode cX9_init 86 = .ok (.iconst 4, 1) := by decide +kernel
theorem dX9_init_87 : decode cX9_init 87 = .ok (.iconst 5, 1) := by decide +kernel
theorem dX9_init_88 : decode cX9_init 88 = .ok (.iastore, 1) := by decide +kernel
theorem dX9_init_89 : decode cX9_init 89 = .ok (.aload_n 0, 1) := by decide +kernel
theorem dX9_init_90 : decode cX9_init 90 = .ok (.getfield 7, 3) := by decide +kernel
theorem dX9_init_93 : decode cX9_init 93 = .ok (.iconst 5, 1) := by decide +kernel
theorem dX9_init_94 : decode cX9_init 94 = .ok (.iconst 4, 1) := by decide +kernel
theorem dX9_init_95 : decode cX9_init 95 = .ok (.iastore, 1) := by decide +kernel
theorem dX9_init_96 : decode cX9_init 96 = .ok (.aload_n 0, 1) := by decide +kernel
theorem dX9_init_97 : decode cX9_init 97 = .ok (.getfield 7, 3) := by decide +kernel
theorem dX9_init_100 : decode cX9_init 100 = .ok (.bipush 6, 2) := by decide +kernel
theorem dX9_init_102 : decode cX9_init 102 = .ok (.iconst 5, 1) := by decide +kernel
theorem dX9_init_103 : decode cX9_init 103 = .ok (.iastore, 1) := by decide +kernel
theorem dX9_init_104 : decode cX9_init 104 = .ok (.iconst 0, 1) := by decide +kernel
theorem dX9_init_105 : decode cX9_init 105 = .ok (.istore_n 1, 1) := by decide +kernel
theorem dX9_init_106 : decode cX9_init 106 = .ok (.iload_n 1, 1) := by decide +kernel
theorem dX9_init_107 : decode cX9_init 107 = .ok (.bipush 10, 2) := by decide +kernel
theorem dX9_init_109 : decode cX9_init 109 = .ok (.if_icmp .ge 19, 3) := by decide +kernel
theorem dX9_init_112 : decode cX9_init 112 = .ok (.aload_n 0, 1) := by decide +kernel
theorem dX9_init_113 : decode cX9_init 113 = .ok (.getfield 7, 3) := by decide +kernel
theorem dX9_init_116 : decode cX9_init 116 = .ok (.bipush 106, 2) := by decide +kernel
theorem dX9_init_118 : decode cX9_init 118 = .ok (.iload_n 1, 1) := by decide +kernel
theorem dX9_init_119 : decode cX9_init 119 = .ok (.iadd, 1) := by decide +kernel
theorem dX9_init_120 : decode cX9_init 120 = .ok (.iconst (-1), 1) := by decide +kernel
theorem dX9_init_121 : decode cX9_init 121 = .ok (.iastore, 1) := by decide +kernel
theorem dX9_init_122 : decode cX9_init 122 = .ok (.iinc 1 1, 3) := by decide +kernel
theorem dX9_init_125 : decode cX9_init 125 = .ok (.goto (-19), 3) := by decide +kernel
theorem dX9_init_128 : decode cX9_init 128 = .ok (.return_, 1) := by decide +kernel
theorem dX9_in_0 : decode cX9_in 0 = .ok (.lload_n 0, 1) := by decide +kernel
theorem dX9_in_1 : decode cX9_in 1 = .ok (.lload_n 2, 1) := by decide +kernel
theorem dX9_in_2 : decode cX9_in 2 = .ok (.lcmp, 1) := by decide +kernel
theorem dX9_in_3 : decode cX9_in 3 = .ok (.ifCond .lt 14, 3) := by decide +kernel
theorem dX9_in_6 : decode cX9_in 6 = .ok (.lload_n 0, 1) := by decide +kernel
theorem dX9_in_7 : decode cX9_in 7 = .ok (.lload 4, 2) := by decide +kernel
theorem dX9_in_9 : decode cX9_in 9 = .ok (.lcmp, 1) := by decide +kernel
theorem dX9_in_10 : decode cX9_in 10 = .ok (.ifCond .gt 7, 3) := by decide +kernel
theorem dX9_in_13 : decode cX9_in 13 = .ok (.iconst 1, 1) := by decide +kernel
theorem dX9_in_14 : decode cX9_in 14 = .ok (.goto 4, 3) := by decide +kernel
theorem dX9_in_17 : decode cX9_in 17 = .ok (.iconst 0, 1) := by decide +kernel
theorem dX9_in_18 : decode cX9_in 18 = .ok (.ireturn, 1) := by decide +kernel
theorem dX9_finds_0 : decode cX9_finds 0 = .ok (.aload_n 0, 1) := by decide +kernel
theorem dX9_finds_1 : decode cX9_finds 1 = .ok (.getfield 19, 3) := by decide +kernel
theorem dX9_finds_4 : decode cX9_finds 4 = .ok (.ldc 37, 2) := by decide +kernel
theorem dX9_finds_6 : decode cX9_finds 6 = .ok (.iload_n 1, 1) := by decide +kernel
theorem dX9_finds_7 : decode cX9_finds 7 = .ok (.isub, 1) := by decide +kernel
theorem dX9_finds_8 : decode cX9_finds 8 = .ok (.dup2, 1) := by decide +kernel
theorem dX9_finds_9 : decode cX9_finds 9 = .ok (.iaload, 1) := by decide +kernel
theorem dX9_finds_10 : decode cX9_finds 10 = .ok (.iconst 1, 1) := by decide +kernel
theorem dX9_finds_11 : decode cX9_finds 11 = .ok (.iadd, 1) := by decide +kernel
theorem dX9_finds_12 : decode cX9_finds 12 = .ok (.iastore, 1) := by decide +kernel
theorem dX9_finds_13 : decode cX9_finds 13 = .ok (.iload_n 1, 1) := by decide +kernel
theorem dX9_finds_14 : decode cX9_finds 14 = .ok (.ireturn, 1) := by decide +kernel
theorem dX9_isBatch_0 : decode cX9_isBatch 0 = .ok (.iload_n 1, 1) := by decide +kernel
theorem dX9_isBatch_1 : decode cX9_isBatch 1 = .ok (.i2l, 1) := by decide +kernel
theorem dX9_isBatch_2 : decode cX9_isBatch 2 = .ok (.lconst 0, 1) := by decide +kernel
theorem dX9_isBatch_3 : decode cX9_isBatch 3 = .ok (.aload_n 0, 1) := by decide +kernel
theorem dX9_isBatch_4 : decode cX9_isBatch 4 = .ok (.getfield 7, 3) := by decide +kernel
theorem dX9_isBatch_7 : decode cX9_isBatch 7 = .ok (.iconst 1, 1) := by decide +kernel
theorem dX9_isBatch_8 : decode cX9_isBatch 8 = .ok (.iaload, 1) := by decide +kernel
theorem dX9_isBatch_9 : decode cX9_isBatch 9 = .ok (.iconst 1, 1) := by decide +kernel
theorem dX9_isBatch_10 : decode cX9_isBatch 10 = .ok (.isub, 1) := by decide +kernel
theorem dX9_isBatch_11 : decode cX9_isBatch 11 = .ok (.i2l, 1) := by decide +kernel
theorem dX9_isBatch_12 : decode cX9_isBatch 12 = .ok (.invokestatic 38, 3) := by decide +kernel
theorem dX9_isBatch_15 : decode cX9_isBatch 15 = .ok (.ireturn, 1) := by decide +kernel
theorem dX9_isCrowd_0 : decode cX9_isCrowd 0 = .ok (.iload_n 1, 1) := by decide +kernel
theorem dX9_isCrowd_1 : decode cX9_isCrowd 1 = .ok (.i2l, 1) := by decide +kernel
theorem dX9_isCrowd_2 : decode cX9_isCrowd 2 = .ok (.lconst 0, 1) := by decide +kernel
theorem dX9_isCrowd_3 : decode cX9_isCrowd 3 = .ok (.aload_n 0, 1) := by decide +kernel
theorem dX9_isCrowd_4 : decode cX9_isCrowd 4 = .ok (.getfield 7, 3) := by decide +kernel
theorem dX9_isCrowd_7 : decode cX9_isCrowd 7 = .ok (.iconst 2, 1) := by decide +kernel
theorem dX9_isCrowd_8 : decode cX9_isCrowd 8 = .ok (.iaload, 1) := by decide +kernel
theorem dX9_isCrowd_9 : decode cX9_isCrowd 9 = .ok (.iconst 1, 1) := by decide +kernel
theorem dX9_isCrowd_10 : decode cX9_isCrowd 10 = .ok (.isub, 1) := by decide +kernel
theorem dX9_isCrowd_11 : decode cX9_isCrowd 11 = .ok (.i2l, 1) := by decide +kernel
theorem dX9_isCrowd_12 : decode cX9_isCrowd 12 = .ok (.invokestatic 38, 3) := by decide +kernel
theorem dX9_isCrowd_15 : decode cX9_isCrowd 15 = .ok (.ireturn, 1) := by decide +kernel
theorem dX9_isCorner_0 : decode cX9_isCorner 0 = .ok (.iload_n 0, 1) := by decide +kernel
theorem dX9_isCorner_1 : decode cX9_isCorner 1 = .ok (.i2l, 1) := by decide +kernel
theorem dX9_isCorner_2 : decode cX9_isCorner 2 = .ok (.lconst 0, 1) := by decide +kernel
theorem dX9_isCorner_3 : decode cX9_isCorner 3 = .ok (.ldc2_w 42, 3) := by decide +kernel
theorem dX9_isCorner_6 : decode cX9_isCorner 6 = .ok (.invokestatic 38, 3) := by decide +kernel
theorem dX9_isCorner_9 : decode cX9_isCorner 9 = .ok (.ireturn, 1) := by decide +kernel
theorem dX9_draw_0 : decode cX9_draw 0 = .ok (.aload_n 0, 1) := by decide +kernel
theorem dX9_draw_1 : decode cX9_draw 1 = .ok (.getfield 7, 3) := by decide +kernel
theorem dX9_draw_4 : decode cX9_draw 4 = .ok (.iconst 3, 1) := by decide +kernel
theorem dX9_draw_5 : decode cX9_draw 5 = .ok (.aload_n 0, 1) := by decide +kernel
theorem dX9_draw_6 : decode cX9_draw 6 = .ok (.getfield 7, 3) := by decide +kernel
theorem dX9_draw_9 : decode cX9_draw 9 = .ok (.iconst 3, 1) := by decide +kernel
theorem dX9_draw_10 : decode cX9_draw 10 = .ok (.iaload, 1) := by decide +kernel
theorem dX9_draw_11 : decode cX9_draw 11 = .ok (.ldc 44, 2) := by decide +kernel
theorem dX9_draw_13 : decode cX9_draw 13 = .ok (.imul, 1) := by decide +kernel
theorem dX9_draw_14 : decode cX9_draw 14 = .ok (.sipush 12345, 3) := by decide +kernel
theorem dX9_draw_17 : decode cX9_draw 17 = .ok (.iadd, 1) := by decide +kernel
theorem dX9_draw_18 : decode cX9_draw 18 = .ok (.iastore, 1) := by decide +kernel
theorem dX9_draw_19 : decode cX9_draw 19 = .ok (.aload_n 0, 1) := by decide +kernel
theorem dX9_draw_20 : decode cX9_draw 20 = .ok (.getfield 7, 3) := by decide +kernel
theorem dX9_draw_23 : decode cX9_draw 23 = .ok (.iconst 3, 1) := by decide +kernel
theorem dX9_draw_24 : decode cX9_draw 24 = .ok (.iaload, 1) := by decide +kernel
theorem dX9_draw_25 : decode cX9_draw 25 = .ok (.bipush 8, 2) := by decide +kernel
theorem dX9_draw_27 : decode cX9_draw 27 = .ok (.iushr, 1) := by decide +kernel
theorem dX9_draw_28 : decode cX9_draw 28 = .ok (.ireturn, 1) := by decide +kernel
theorem dX9_saves_0 : decode cX9_saves 0 = .ok (.iconst 0, 1) := by decide +kernel
theorem dX9_saves_1 : decode cX9_saves 1 = .ok (.istore_n 1, 1) := by decide +kernel
theorem dX9_saves_2 : decode cX9_saves 2 = .ok (.iload_n 1, 1) := by decide +kernel
theorem dX9_saves_3 : decode cX9_saves 3 = .ok (.bipush 116, 2) := by decide +kernel
theorem dX9_saves_5 : decode cX9_saves 5 = .ok (.if_icmp .ge 21, 3) := by decide +kernel
theorem dX9_saves_8 : decode cX9_saves 8 = .ok (.aload_n 0, 1) := by decide +kernel
theorem dX9_saves_9 : decode cX9_saves 9 = .ok (.getfield 16, 3) := by decide +kernel
theorem dX9_saves_12 : decode cX9_saves 12 = .ok (.iload_n 1, 1) := by decide +kernel
theorem dX9_saves_13 : decode cX9_saves 13 = .ok (.aload_n 0, 1) := by decide +kernel
theorem dX9_saves_14 : decode cX9_saves 14 = .ok (.getfield 7, 3) := by decide +kernel
theorem dX9_saves_17 : decode cX9_saves 17 = .ok (.iload_n 1, 1) := by decide +kernel
theorem dX9_saves_18 : decode cX9_saves 18 = .ok (.iaload, 1) := by decide +kernel
theorem dX9_saves_19 : decode cX9_saves 19 = .ok (.iastore, 1) := by decide +kernel
theorem dX9_saves_20 : decode cX9_saves 20 = .ok (.iinc 1 1, 3) := by decide +kernel
theorem dX9_saves_23 : decode cX9_saves 23 = .ok (.goto (-21), 3) := by decide +kernel
theorem dX9_saves_26 : decode cX9_saves 26 = .ok (.return_, 1) := by decide +kernel
theorem dX9_putsBack_0 : decode cX9_putsBack 0 = .ok (.iconst 0, 1) := by decide +kernel
theorem dX9_putsBack_1 : decode cX9_putsBack 1 = .ok (.istore_n 1, 1) := by decide +kernel
theorem dX9_putsBack_2 : decode cX9_putsBack 2 = .ok (.iload_n 1, 1) := by decide +kernel
theorem dX9_putsBack_3 : decode cX9_putsBack 3 = .ok (.bipush 116, 2) := by decide +kernel
theorem dX9_putsBack_5 : decode cX9_putsBack 5 = .ok (.if_icmp .ge 21, 3) := by decide +kernel
theorem dX9_putsBack_8 : decode cX9_putsBack 8 = .ok (.aload_n 0, 1) := by decide +kernel
theorem dX9_putsBack_9 : decode cX9_putsBack 9 = .ok (.getfield 7, 3) := by decide +kernel
theorem dX9_putsBack_12 : decode cX9_putsBack 12 = .ok (.iload_n 1, 1) := by decide +kernel
theorem dX9_putsBack_13 : decode cX9_putsBack 13 = .ok (.aload_n 0, 1) := by decide +kernel
theorem dX9_putsBack_14 : decode cX9_putsBack 14 = .ok (.getfield 16, 3) := by decide +kernel
theorem dX9_putsBack_17 : decode cX9_putsBack 17 = .ok (.iload_n 1, 1) := by decide +kernel
theorem dX9_putsBack_18 : decode cX9_putsBack 18 = .ok (.iaload, 1) := by decide +kernel
theorem dX9_putsBack_19 : decode cX9_putsBack 19 = .ok (.iastore, 1) := by decide +kernel
theorem dX9_putsBack_20 : decode cX9_putsBack 20 = .ok (.iinc 1 1, 3) := by decide +kernel
theorem dX9_putsBack_23 : decode cX9_putsBack 23 = .ok (.goto (-21), 3) := by decide +kernel
theorem dX9_putsBack_26 : decode cX9_putsBack 26 = .ok (.return_, 1) := by decide +kernel
theorem dX9_where_0 : decode cX9_where 0 = .ok (.bipush 20, 2) := by decide +kernel
theorem dX9_where_2 : decode cX9_where 2 = .ok (.iconst 5, 1) := by decide +kernel
theorem dX9_where_3 : decode cX9_where 3 = .ok (.iload_n 0, 1) := by decide +kernel
theorem dX9_where_4 : decode cX9_where 4 = .ok (.imul, 1) := by decide +kernel
theorem dX9_where_5 : decode cX9_where 5 = .ok (.iadd, 1) := by decide +kernel
theorem dX9_where_6 : decode cX9_where 6 = .ok (.iload_n 1, 1) := by decide +kernel
theorem dX9_where_7 : decode cX9_where 7 = .ok (.iadd, 1) := by decide +kernel
theorem dX9_where_8 : decode cX9_where 8 = .ok (.ireturn, 1) := by decide +kernel
theorem dX9_its_0 : decode cX9_its 0 = .ok (.aload_n 0, 1) := by decide +kernel
theorem dX9_its_1 : decode cX9_its 1 = .ok (.getfield 7, 3) := by decide +kernel
theorem dX9_its_4 : decode cX9_its 4 = .ok (.iload_n 1, 1) := by decide +kernel
theorem dX9_its_5 : decode cX9_its 5 = .ok (.iload_n 2, 1) := by decide +kernel
theorem dX9_its_6 : decode cX9_its 6 = .ok (.invokestatic 45, 3) := by decide +kernel
theorem dX9_its_9 : decode cX9_its 9 = .ok (.iaload, 1) := by decide +kernel
theorem dX9_its_10 : decode cX9_its 10 = .ok (.ireturn, 1) := by decide +kernel
theorem dX9_newBatch_0 : decode cX9_newBatch 0 = .ok (.aload_n 0, 1) := by decide +kernel
theorem dX9_newBatch_1 : decode cX9_newBatch 1 = .ok (.getfield 7, 3) := by decide +kernel
theorem dX9_newBatch_4 : decode cX9_newBatch 4 = .ok (.iconst 1, 1) := by decide +kernel
theorem dX9_newBatch_5 : decode cX9_newBatch 5 = .ok (.iaload, 1) := by decide +kernel
theorem dX9_newBatch_6 : decode cX9_newBatch 6 = .ok (.istore 4, 2) := by decide +kernel
theorem dX9_newBatch_8 : decode cX9_newBatch 8 = .ok (.aload_n 0, 1) := by decide +kernel
theorem dX9_newBatch_9 : decode cX9_newBatch 9 = .ok (.getfield 7, 3) := by decide +kernel
theorem dX9_newBatch_12 : decode cX9_newBatch 12 = .ok (.iload 4, 2) := by decide +kernel
theorem dX9_newBatch_14 : decode cX9_newBatch 14 = .ok (.iconst 0, 1) := by decide +kernel
theorem dX9_newBatch_15 : decode cX9_newBatch 15 = .ok (.invokestatic 45, 3) := by decide +kernel
theorem dX9_newBatch_18 : decode cX9_newBatch 18 = .ok (.iload_n 1, 1) := by decide +kernel
theorem dX9_newBatch_19 : decode cX9_newBatch 19 = .ok (.iastore, 1) := by decide +kernel
theorem dX9_newBatch_20 : decode cX9_newBatch 20 = .ok (.aload_n 0, 1) := by decide +kernel
theorem dX9_newBatch_21 : decode cX9_newBatch 21 = .ok (.getfield 7, 3) := by decide +kernel
theorem dX9_newBatch_24 : decode cX9_newBatch 24 = .ok (.iload 4, 2) := by decide +kernel
theorem dX9_newBatch_26 : decode cX9_newBatch 26 = .ok (.iconst 1, 1) := by decide +kernel
theorem dX9_newBatch_27 : decode cX9_newBatch 27 = .ok (.invokestatic 45, 3) := by decide +kernel
theorem dX9_newBatch_30 : decode cX9_newBatch 30 = .ok (.bipush 9, 2) := by decide +kernel
theorem dX9_newBatch_32 : decode cX9_newBatch 32 = .ok (.iastore, 1) := by decide +kernel
theorem dX9_newBatch_33 : decode cX9_newBatch 33 = .ok (.aload_n 0, 1) := by decide +kernel
theorem dX9_newBatch_34 : decode cX9_newBatch 34 = .ok (.getfield 7, 3) := by decide +kernel
theorem dX9_newBatch_37 : decode cX9_newBatch 37 = .ok (.iload 4, 2) := by decide +kernel
theorem dX9_newBatch_39 : decode cX9_newBatch 39 = .ok (.iconst 2, 1) := by decide +kernel
theorem dX9_newBatch_40 : decode cX9_newBatch 40 = .ok (.invokestatic 45, 3) := by decide +kernel
theorem dX9_newBatch_43 : decode cX9_newBatch 43 = .ok (.iload_n 2, 1) := by decide +kernel
theorem dX9_newBatch_44 : decode cX9_newBatch 44 = .ok (.iastore, 1) := by decide +kernel
theorem dX9_newBatch_45 : decode cX9_newBatch 45 = .ok (.aload_n 0, 1) := by decide +kernel
theorem dX9_newBatch_46 : decode cX9_newBatch 46 = .ok (.getfield 7, 3) := by decide +kernel
theorem dX9_newBatch_49 : decode cX9_newBatch 49 = .ok (.iload 4, 2) := by decide +kernel
theorem dX9_newBatch_51 : decode cX9_newBatch 51 = .ok (.iconst 3, 1) := by decide +kernel
theorem dX9_newBatch_52 : decode cX9_newBatch 52 = .ok (.invokestatic 45, 3) := by decide +kernel
theorem dX9_newBatch_55 : decode cX9_newBatch 55 = .ok (.iconst 0, 1) := by decide +kernel
theorem dX9_newBatch_56 : decode cX9_newBatch 56 = .ok (.iastore, 1) := by decide +kernel
theorem dX9_newBatch_57 : decode cX9_newBatch 57 = .ok (.aload_n 0, 1) := by decide +kernel
theorem dX9_newBatch_58 : decode cX9_newBatch 58 = .ok (.getfield 7, 3) := by decide +kernel
theorem dX9_newBatch_61 : decode cX9_newBatch 61 = .ok (.iload 4, 2) := by decide +kernel
theorem dX9_newBatch_63 : decode cX9_newBatch 63 = .ok (.iconst 4, 1) := by decide +kernel
theorem dX9_newBatch_64 : decode cX9_newBatch 64 = .ok (.invokestatic 45, 3) := by decide +kernel
theorem dX9_newBatch_67 : decode cX9_newBatch 67 = .ok (.iload_n 3, 1) := by decide +kernel
theorem dX9_newBatch_68 : decode cX9_newBatch 68 = .ok (.iastore, 1) := by decide +kernel
theorem dX9_newBatch_69 : decode cX9_newBatch 69 = .ok (.aload_n 0, 1) := by decide +kernel
theorem dX9_newBatch_70 : decode cX9_newBatch 70 = .ok (.getfield 7, 3) := by decide +kernel
theorem dX9_newBatch_73 : decode cX9_newBatch 73 = .ok (.iconst 1, 1) := by decide +kernel
theorem dX9_newBatch_74 : decode cX9_newBatch 74 = .ok (.dup2, 1) := by decide +kernel
theorem dX9_newBatch_75 : decode cX9_newBatch 75 = .ok (.iaload, 1) := by decide +kernel
theorem dX9_newBatch_76 : decode cX9_newBatch 76 = .ok (.iconst 1, 1) := by decide +kernel
theorem dX9_newBatch_77 : decode cX9_newBatch 77 = .ok (.iadd, 1) := by decide +kernel
theorem dX9_newBatch_78 : decode cX9_newBatch 78 = .ok (.iastore, 1) := by decide +kernel
theorem dX9_newBatch_79 : decode cX9_newBatch 79 = .ok (.iload 4, 2) := by decide +kernel
theorem dX9_newBatch_81 : decode cX9_newBatch 81 = .ok (.ireturn, 1) := by decide +kernel
theorem dX9_batch_0 : decode cX9_batch 0 = .ok (.iload_n 1, 1) := by decide +kernel
theorem dX9_batch_1 : decode cX9_batch 1 = .ok (.i2l, 1) := by decide +kernel
theorem dX9_batch_2 : decode cX9_batch 2 = .ok (.lconst 0, 1) := by decide +kernel
theorem dX9_batch_3 : decode cX9_batch 3 = .ok (.ldc2_w 49, 3) := by decide +kernel
theorem dX9_batch_6 : decode cX9_batch 6 = .ok (.invokestatic 38, 3) := by decide +kernel
theorem dX9_batch_9 : decode cX9_batch 9 = .ok (.ifCond .ne 10, 3) := by decide +kernel
theorem dX9_batch_12 : decode cX9_batch 12 = .ok (.aload_n 0, 1) := by decide +kernel
theorem dX9_batch_13 : decode cX9_batch 13 = .ok (.ldc 37, 2) := by decide +kernel
theorem dX9_batch_15 : decode cX9_batch 15 = .ok (.invokevirtual 51, 3) := by decide +kernel
theorem dX9_batch_18 : decode cX9_batch 18 = .ok (.ireturn, 1) := by decide +kernel
theorem dX9_batch_19 : decode cX9_batch 19 = .ok (.aload_n 0, 1) := by decide +kernel
theorem dX9_batch_20 : decode cX9_batch 20 = .ok (.getfield 7, 3) := by decide +kernel
theorem dX9_batch_23 : decode cX9_batch 23 = .ok (.iconst 1, 1) := by decide +kernel
theorem dX9_batch_24 : decode cX9_batch 24 = .ok (.iaload, 1) := by decide +kernel
theorem dX9_batch_25 : decode cX9_batch 25 = .ok (.bipush 10, 2) := by decide +kernel
theorem dX9_batch_27 : decode cX9_batch 27 = .ok (.if_icmp .ne 12, 3) := by decide +kernel
theorem dX9_batch_30 : decode cX9_batch 30 = .ok (.aload_n 0, 1) := by decide +kernel
theorem dX9_batch_31 : decode cX9_batch 31 = .ok (.ldc 55, 2) := by decide +kernel
theorem dX9_batch_33 : decode cX9_batch 33 = .ok (.invokevirtual 51, 3) := by decide +kernel
theorem dX9_batch_36 : decode cX9_batch 36 = .ok (.goto 10, 3) := by decide +kernel
theorem dX9_batch_39 : decode cX9_batch 39 = .ok (.aload_n 0, 1) := by decide +kernel
theorem dX9_batch_40 : decode cX9_batch 40 = .ok (.iload_n 1, 1) := by decide +kernel
theorem dX9_batch_41 : decode cX9_batch 41 = .ok (.iconst 0, 1) := by decide +kernel
theorem dX9_batch_42 : decode cX9_batch 42 = .ok (.iconst 0, 1) := by decide +kernel
theorem dX9_batch_43 : decode cX9_batch 43 = .ok (.invokevirtual 56, 3) := by decide +kernel
theorem dX9_batch_46 : decode cX9_batch 46 = .ok (.ireturn, 1) := by decide +kernel
theorem dX9_heatsOf_0 : decode cX9_heatsOf 0 = .ok (.aload_n 0, 1) := by decide +kernel
theorem dX9_heatsOf_1 : decode cX9_heatsOf 1 = .ok (.iload_n 1, 1) := by decide +kernel
theorem dX9_heatsOf_2 : decode cX9_heatsOf 2 = .ok (.iconst 0, 1) := by decide +kernel
theorem dX9_heatsOf_3 : decode cX9_heatsOf 3 = .ok (.invokevirtual 60, 3) := by decide +kernel
theorem dX9_heatsOf_6 : decode cX9_heatsOf 6 = .ok (.tableswitch 66 1 6 #[38, 50, 38, 50, 66, 62], 38) := by decide +kernel
theorem dX9_heatsOf_44 : decode cX9_heatsOf 44 = .ok (.iload_n 2, 1) := by decide +kernel
theorem dX9_heatsOf_45 : decode cX9_heatsOf 45 = .ok (.ifCond .le 9, 3) := by decide +kernel
theorem dX9_heatsOf_48 : decode cX9_heatsOf 48 = .ok (.iload_n 2, 1) := by decide +kernel
theorem dX9_heatsOf_49 : decode cX9_heatsOf 49 = .ok (.iconst 1, 1) := by decide +kernel
theorem dX9_heatsOf_50 : decode cX9_heatsOf 50 = .ok (.isub, 1) := by decide +kernel
theorem dX9_heatsOf_51 : decode cX9_heatsOf 51 = .ok (.goto 4, 3) := by decide +kernel
theorem dX9_heatsOf_54 : decode cX9_heatsOf 54 = .ok (.iconst 0, 1) := by decide +kernel
theorem dX9_heatsOf_55 : decode cX9_heatsOf 55 = .ok (.ireturn, 1) := by decide +kernel
theorem dX9_heatsOf_56 : decode cX9_heatsOf 56 = .ok (.iload_n 2, 1) := by decide +kernel
theorem dX9_heatsOf_57 : decode cX9_heatsOf 57 = .ok (.ifCond .le 9, 3) := by decide +kernel
theorem dX9_heatsOf_60 : decode cX9_heatsOf 60 = .ok (.iload_n 2, 1) := by decide +kernel
theorem dX9_heatsOf_61 : decode cX9_heatsOf 61 = .ok (.iconst 1, 1) := by decide +kernel
theorem dX9_heatsOf_62 : decode cX9_heatsOf 62 = .ok (.iadd, 1) := by decide +kernel
theorem dX9_heatsOf_63 : decode cX9_heatsOf 63 = .ok (.goto 4, 3) := by decide +kernel
theorem dX9_heatsOf_66 : decode cX9_heatsOf 66 = .ok (.iconst 0, 1) := by decide +kernel
theorem dX9_heatsOf_67 : decode cX9_heatsOf 67 = .ok (.ireturn, 1) := by decide +kernel
theorem dX9_heatsOf_68 : decode cX9_heatsOf 68 = .ok (.iload_n 2, 1) := by decide +kernel
theorem dX9_heatsOf_69 : decode cX9_heatsOf 69 = .ok (.iconst 2, 1) := by decide +kernel
theorem dX9_heatsOf_70 : decode cX9_heatsOf 70 = .ok (.idiv, 1) := by decide +kernel
theorem dX9_heatsOf_71 : decode cX9_heatsOf 71 = .ok (.ireturn, 1) := by decide +kernel
theorem dX9_heatsOf_72 : decode cX9_heatsOf 72 = .ok (.iload_n 2, 1) := by decide +kernel
theorem dX9_heatsOf_73 : decode cX9_heatsOf 73 = .ok (.ireturn, 1) := by decide +kernel
theorem dX9_readyAt_0 : decode cX9_readyAt 0 = .ok (.aload_n 0, 1) := by decide +kernel
theorem dX9_readyAt_1 : decode cX9_readyAt 1 = .ok (.iload_n 1, 1) := by decide +kernel
theorem dX9_readyAt_2 : decode cX9_readyAt 2 = .ok (.iconst 0, 1) := by decide +kernel
theorem dX9_readyAt_3 : decode cX9_readyAt 3 = .ok (.invokevirtual 60, 3) := by decide +kernel
theorem dX9_readyAt_6 : decode cX9_readyAt 6 = .ok (.istore_n 2, 1) := by decide +kernel
theorem dX9_readyAt_7 : decode cX9_readyAt 7 = .ok (.iload_n 2, 1) := by decide +kernel
theorem dX9_readyAt_8 : decode cX9_readyAt 8 = .ok (.iconst 1, 1) := by decide +kernel
theorem dX9_readyAt_9 : decode cX9_readyAt 9 = .ok (.if_icmp .ne 9, 3) := by decide +kernel
theorem dX9_readyAt_12 : decode cX9_readyAt 12 = .ok (.sipush 130, 3) := by decide +kernel
theorem dX9_readyAt_15 : decode cX9_readyAt 15 = .ok (.goto 31, 3) := by decide +kernel
theorem dX9_readyAt_18 : decode cX9_readyAt 18 = .ok (.iload_n 2, 1) := by decide +kernel
theorem dX9_readyAt_19 : decode cX9_readyAt 19 = .ok (.iconst 3, 1) := by decide +kernel
theorem dX9_readyAt_20 : decode cX9_readyAt 20 = .ok (.if_icmp .ne 9, 3) := by decide +kernel
theorem dX9_readyAt_23 : decode cX9_readyAt 23 = .ok (.sipush 140, 3) := by decide +kernel
theorem dX9_readyAt_26 : decode cX9_readyAt 26 = .ok (.goto 20, 3) := by decide +kernel
theorem dX9_readyAt_29 : decode cX9_readyAt 29 = .ok (.iload_n 2, 1) := by decide +kernel
theorem dX9_readyAt_30 : decode cX9_readyAt 30 = .ok (.iconst 2, 1) := by decide +kernel
theorem dX9_readyAt_31 : decode cX9_readyAt 31 = .ok (.if_icmp .eq 8, 3) := by decide +kernel
theorem dX9_readyAt_34 : decode cX9_readyAt 34 = .ok (.iload_n 2, 1) := by decide +kernel
theorem dX9_readyAt_35 : decode cX9_readyAt 35 = .ok (.iconst 4, 1) := by decide +kernel
theorem dX9_readyAt_36 : decode cX9_readyAt 36 = .ok (.if_icmp .ne 8, 3) := by decide +kernel
theorem dX9_readyAt_39 : decode cX9_readyAt 39 = .ok (.bipush 80, 2) := by decide +kernel
theorem dX9_readyAt_41 : decode cX9_readyAt 41 = .ok (.goto 5, 3) := by decide +kernel
theorem dX9_readyAt_44 : decode cX9_readyAt 44 = .ok (.bipush 100, 2) := by decide +kernel
theorem dX9_readyAt_46 : decode cX9_readyAt 46 = .ok (.ireturn, 1) := by decide +kernel
theorem dX9_burntAt_0 : decode cX9_burntAt 0 = .ok (.aload_n 0, 1) := by decide +kernel
theorem dX9_burntAt_1 : decode cX9_burntAt 1 = .ok (.iload_n 1, 1) := by decide +kernel
theorem dX9_burntAt_2 : decode cX9_burntAt 2 = .ok (.iconst 0, 1) := by decide +kernel
theorem dX9_burntAt_3 : decode cX9_burntAt 3 = .ok (.invokevirtual 60, 3) := by decide +kernel
theorem dX9_burntAt_6 : decode cX9_burntAt 6 = .ok (.istore_n 2, 1) := by decide +kernel
theorem dX9_burntAt_7 : decode cX9_burntAt 7 = .ok (.aload_n 0, 1) := by decide +kernel
theorem dX9_burntAt_8 : decode cX9_burntAt 8 = .ok (.iload_n 1, 1) := by decide +kernel
theorem dX9_burntAt_9 : decode cX9_burntAt 9 = .ok (.invokevirtual 63, 3) := by decide +kernel
theorem dX9_burntAt_12 : decode cX9_burntAt 12 = .ok (.iload_n 2, 1) := by decide +kernel
theorem dX9_burntAt_13 : decode cX9_burntAt 13 = .ok (.iconst 2, 1) := by decide +kernel
theorem dX9_burntAt_14 : decode cX9_burntAt 14 = .ok (.if_icmp .eq 8, 3) := by decide +kernel
theorem dX9_burntAt_17 : decode cX9_burntAt 17 = .ok (.iload_n 2, 1) := by decide +kernel
theorem dX9_burntAt_18 : decode cX9_burntAt 18 = .ok (.iconst 4, 1) := by decide +kernel
theorem dX9_burntAt_19 : decode cX9_burntAt 19 = .ok (.if_icmp .ne 8, 3) := by decide +kernel
theorem dX9_burntAt_22 : decode cX9_burntAt 22 = .ok (.bipush 25, 2) := by decide +kernel
theorem dX9_burntAt_24 : decode cX9_burntAt 24 = .ok (.goto 5, 3) := by decide +kernel
theorem dX9_burntAt_27 : decode cX9_burntAt 27 = .ok (.bipush 40, 2) := by decide +kernel
theorem dX9_burntAt_29 : decode cX9_burntAt 29 = .ok (.iadd, 1) := by decide +kernel
theorem dX9_burntAt_30 : decode cX9_burntAt 30 = .ok (.ireturn, 1) := by decide +kernel
theorem dX9_worth_0 : decode cX9_worth 0 = .ok (.aload_n 0, 1) := by decide +kernel
theorem dX9_worth_1 : decode cX9_worth 1 = .ok (.iload_n 1, 1) := by decide +kernel
theorem dX9_worth_2 : decode cX9_worth 2 = .ok (.iconst 0, 1) := by decide +kernel
theorem dX9_worth_3 : decode cX9_worth 3 = .ok (.invokevirtual 60, 3) := by decide +kernel
theorem dX9_worth_6 : decode cX9_worth 6 = .ok (.istore_n 2, 1) := by decide +kernel
theorem dX9_worth_7 : decode cX9_worth 7 = .ok (.aload_n 0, 1) := by decide +kernel
theorem dX9_worth_8 : decode cX9_worth 8 = .ok (.getfield 7, 3) := by decide +kernel
theorem dX9_worth_11 : decode cX9_worth 11 = .ok (.iconst 5, 1) := by decide +kernel
theorem dX9_worth_12 : decode cX9_worth 12 = .ok (.iaload, 1) := by decide +kernel
theorem dX9_worth_13 : decode cX9_worth 13 = .ok (.iconst 2, 1) := by decide +kernel
theorem dX9_worth_14 : decode cX9_worth 14 = .ok (.if_icmp .ge 7, 3) := by decide +kernel
theorem dX9_worth_17 : decode cX9_worth 17 = .ok (.iconst 0, 1) := by decide +kernel
theorem dX9_worth_18 : decode cX9_worth 18 = .ok (.goto 11, 3) := by decide +kernel
theorem dX9_worth_21 : decode cX9_worth 21 = .ok (.aload_n 0, 1) := by decide +kernel
theorem dX9_worth_22 : decode cX9_worth 22 = .ok (.getfield 7, 3) := by decide +kernel
theorem dX9_worth_25 : decode cX9_worth 25 = .ok (.iconst 5, 1) := by decide +kernel
theorem dX9_worth_26 : decode cX9_worth 26 = .ok (.iaload, 1) := by decide +kernel
theorem dX9_worth_27 : decode cX9_worth 27 = .ok (.iconst 2, 1) := by decide +kernel
theorem dX9_worth_28 : decode cX9_worth 28 = .ok (.isub, 1) := by decide +kernel
theorem dX9_worth_29 : decode cX9_worth 29 = .ok (.istore_n 3, 1) := by decide +kernel
theorem dX9_worth_30 : decode cX9_worth 30 = .ok (.iload_n 2, 1) := by decide +kernel
theorem dX9_worth_31 : decode cX9_worth 31 = .ok (.iconst 3, 1) := by decide +kernel
theorem dX9_worth_32 : decode cX9_worth 32 = .ok (.if_icmp .ne 14, 3) := by decide +kernel
theorem dX9_worth_35 : decode cX9_worth 35 = .ok (.aload_n 0, 1) := by decide +kernel
theorem dX9_worth_36 : decode cX9_worth 36 = .ok (.getfield 7, 3) := by decide +kernel
theorem dX9_worth_39 : decode cX9_worth 39 = .ok (.iconst 5, 1) := by decide +kernel
theorem dX9_worth_40 : decode cX9_worth 40 = .ok (.iaload, 1) := by decide +kernel
theorem dX9_worth_41 : decode cX9_worth 41 = .ok (.iconst 2, 1) := by decide +kernel
theorem dX9_worth_42 : decode cX9_worth 42 = .ok (.iadd, 1) := by decide +kernel
theorem dX9_worth_43 : decode cX9_worth 43 = .ok (.goto 30, 3) := by decide +kernel
theorem dX9_worth_46 : decode cX9_worth 46 = .ok (.iload_n 2, 1) := by decide +kernel
theorem dX9_worth_47 : decode cX9_worth 47 = .ok (.iconst 5, 1) := by decide +kernel
theorem dX9_worth_48 : decode cX9_worth 48 = .ok (.if_icmp .ne 7, 3) := by decide +kernel
theorem dX9_worth_51 : decode cX9_worth 51 = .ok (.iload_n 3, 1) := by decide +kernel
theorem dX9_worth_52 : decode cX9_worth 52 = .ok (.goto 21, 3) := by decide +kernel
theorem dX9_worth_55 : decode cX9_worth 55 = .ok (.iload_n 2, 1) := by decide +kernel
theorem dX9_worth_56 : decode cX9_worth 56 = .ok (.bipush 6, 2) := by decide +kernel
theorem dX9_worth_58 : decode cX9_worth 58 = .ok (.if_icmp .ne 9, 3) := by decide +kernel
theorem dX9_worth_61 : decode cX9_worth 61 = .ok (.iload_n 3, 1) := by decide +kernel
theorem dX9_worth_62 : decode cX9_worth 62 = .ok (.iconst 2, 1) := by decide +kernel
theorem dX9_worth_63 : decode cX9_worth 63 = .ok (.idiv, 1) := by decide +kernel
theorem dX9_worth_64 : decode cX9_worth 64 = .ok (.goto 9, 3) := by decide +kernel
theorem dX9_worth_67 : decode cX9_worth 67 = .ok (.aload_n 0, 1) := by decide +kernel
theorem dX9_worth_68 : decode cX9_worth 68 = .ok (.getfield 7, 3) := by decide +kernel
theorem dX9_worth_71 : decode cX9_worth 71 = .ok (.iconst 5, 1) := by decide +kernel
theorem dX9_worth_72 : decode cX9_worth 72 = .ok (.iaload, 1) := by decide +kernel
theorem dX9_worth_73 : decode cX9_worth 73 = .ok (.ireturn, 1) := by decide +kernel
theorem dX9_of_0 : decode cX9_of 0 = .ok (.aload_n 0, 1) := by decide +kernel
theorem dX9_of_1 : decode cX9_of 1 = .ok (.iload_n 1, 1) := by decide +kernel
theorem dX9_of_2 : decode cX9_of 2 = .ok (.invokevirtual 66, 3) := by decide +kernel
theorem dX9_of_5 : decode cX9_of 5 = .ok (.ifCond .eq 15, 3) := by decide +kernel
theorem dX9_of_8 : decode cX9_of 8 = .ok (.iload_n 2, 1) := by decide +kernel
theorem dX9_of_9 : decode cX9_of 9 = .ok (.i2l, 1) := by decide +kernel
theorem dX9_of_10 : decode cX9_of 10 = .ok (.lconst 0, 1) := by decide +kernel
theorem dX9_of_11 : decode cX9_of 11 = .ok (.ldc2_w 70, 3) := by decide +kernel
theorem dX9_of_14 : decode cX9_of 14 = .ok (.invokestatic 38, 3) := by decide +kernel
theorem dX9_of_17 : decode cX9_of 17 = .ok (.ifCond .ne 10, 3) := by decide +kernel
theorem dX9_of_20 : decode cX9_of 20 = .ok (.aload_n 0, 1) := by decide +kernel
theorem dX9_of_21 : decode cX9_of 21 = .ok (.ldc 37, 2) := by decide +kernel
theorem dX9_of_23 : decode cX9_of 23 = .ok (.invokevirtual 51, 3) := by decide +kernel
theorem dX9_of_26 : decode cX9_of 26 = .ok (.ireturn, 1) := by decide +kernel
theorem dX9_of_27 : decode cX9_of 27 = .ok (.iload_n 2, 1) := by decide +kernel
theorem dX9_of_28 : decode cX9_of 28 = .ok (.iconst 5, 1) := by decide +kernel
theorem dX9_of_29 : decode cX9_of 29 = .ok (.if_icmp .ge 12, 3) := by decide +kernel
theorem dX9_of_32 : decode cX9_of 32 = .ok (.aload_n 0, 1) := by decide +kernel
theorem dX9_of_33 : decode cX9_of 33 = .ok (.iload_n 1, 1) := by decide +kernel
theorem dX9_of_34 : decode cX9_of 34 = .ok (.iload_n 2, 1) := by decide +kernel
theorem dX9_of_35 : decode cX9_of 35 = .ok (.invokevirtual 60, 3) := by decide +kernel
theorem dX9_of_38 : decode cX9_of 38 = .ok (.goto 35, 3) := by decide +kernel
theorem dX9_of_41 : decode cX9_of 41 = .ok (.iload_n 2, 1) := by decide +kernel
theorem dX9_of_42 : decode cX9_of 42 = .ok (.iconst 5, 1) := by decide +kernel
theorem dX9_of_43 : decode cX9_of 43 = .ok (.if_icmp .ne 11, 3) := by decide +kernel
theorem dX9_of_46 : decode cX9_of 46 = .ok (.aload_n 0, 1) := by decide +kernel
theorem dX9_of_47 : decode cX9_of 47 = .ok (.iload_n 1, 1) := by decide +kernel
theorem dX9_of_48 : decode cX9_of 48 = .ok (.invokevirtual 63, 3) := by decide +kernel
theorem dX9_of_51 : decode cX9_of 51 = .ok (.goto 22, 3) := by decide +kernel
theorem dX9_of_54 : decode cX9_of 54 = .ok (.iload_n 2, 1) := by decide +kernel
theorem dX9_of_55 : decode cX9_of 55 = .ok (.bipush 6, 2) := by decide +kernel
theorem dX9_of_57 : decode cX9_of 57 = .ok (.if_icmp .ne 11, 3) := by decide +kernel
theorem dX9_of_60 : decode cX9_of 60 = .ok (.aload_n 0, 1) := by decide +kernel
theorem dX9_of_61 : decode cX9_of 61 = .ok (.iload_n 1, 1) := by decide +kernel
theorem dX9_of_62 : decode cX9_of 62 = .ok (.invokevirtual 72, 3) := by decide +kernel
theorem dX9_of_65 : decode cX9_of 65 = .ok (.goto 8, 3) := by decide +kernel
theorem dX9_of_68 : decode cX9_of 68 = .ok (.aload_n 0, 1) := by decide +kernel
theorem dX9_of_69 : decode cX9_of 69 = .ok (.iload_n 1, 1) := by decide +kernel
theorem dX9_of_70 : decode cX9_of 70 = .ok (.invokevirtual 75, 3) := by decide +kernel
theorem dX9_of_73 : decode cX9_of 73 = .ok (.ireturn, 1) := by decide +kernel
theorem dX9_isPart_0 : decode cX9_isPart 0 = .ok (.iload_n 0, 1) := by decide +kernel
theorem dX9_isPart_1 : decode cX9_isPart 1 = .ok (.lookupswitch 47 #[(0, 27), (1, 37)], 27) := by decide +kernel
theorem dX9_isPart_28 : decode cX9_isPart 28 = .ok (.iload_n 1, 1) := by decide +kernel
theorem dX9_isPart_29 : decode cX9_isPart 29 = .ok (.i2l, 1) := by decide +kernel
theorem dX9_isPart_30 : decode cX9_isPart 30 = .ok (.lconst 0, 1) := by decide +kernel
theorem dX9_isPart_31 : decode cX9_isPart 31 = .ok (.ldc2_w 49, 3) := by decide +kernel
theorem dX9_isPart_34 : decode cX9_isPart 34 = .ok (.invokestatic 38, 3) := by decide +kernel
theorem dX9_isPart_37 : decode cX9_isPart 37 = .ok (.ireturn, 1) := by decide +kernel
theorem dX9_isPart_38 : decode cX9_isPart 38 = .ok (.iload_n 1, 1) := by decide +kernel
theorem dX9_isPart_39 : decode cX9_isPart 39 = .ok (.i2l, 1) := by decide +kernel
theorem dX9_isPart_40 : decode cX9_isPart 40 = .ok (.lconst 0, 1) := by decide +kernel
theorem dX9_isPart_41 : decode cX9_isPart 41 = .ok (.ldc2_w 78, 3) := by decide +kernel
theorem dX9_isPart_44 : decode cX9_isPart 44 = .ok (.invokestatic 38, 3) := by decide +kernel
theorem dX9_isPart_47 : decode cX9_isPart 47 = .ok (.ireturn, 1) := by decide +kernel
theorem dX9_isPart_48 : decode cX9_isPart 48 = .ok (.iload_n 0, 1) := by decide +kernel
theorem dX9_isPart_49 : decode cX9_isPart 49 = .ok (.iconst 2, 1) := by decide +kernel
theorem dX9_isPart_50 : decode cX9_isPart 50 = .ok (.if_icmp .eq 8, 3) := by decide +kernel
theorem dX9_isPart_53 : decode cX9_isPart 53 = .ok (.iload_n 0, 1) := by decide +kernel
theorem dX9_isPart_54 : decode cX9_isPart 54 = .ok (.iconst 3, 1) := by decide +kernel
theorem dX9_isPart_55 : decode cX9_isPart 55 = .ok (.if_icmp .ne 19, 3) := by decide +kernel
theorem dX9_isPart_58 : decode cX9_isPart 58 = .ok (.iload_n 1, 1) := by decide +kernel
theorem dX9_isPart_59 : decode cX9_isPart 59 = .ok (.i2l, 1) := by decide +kernel
theorem dX9_isPart_60 : decode cX9_isPart 60 = .ok (.lconst 0, 1) := by decide +kernel
theorem dX9_isPart_61 : decode cX9_isPart 61 = .ok (.ldc2_w 80, 3) := by decide +kernel
theorem dX9_isPart_64 : decode cX9_isPart 64 = .ok (.invokestatic 38, 3) := by decide +kernel
theorem dX9_isPart_67 : decode cX9_isPart 67 = .ok (.ifCond .eq 7, 3) := by decide +kernel
theorem dX9_isPart_70 : decode cX9_isPart 70 = .ok (.iconst 1, 1) := by decide +kernel
theorem dX9_isPart_71 : decode cX9_isPart 71 = .ok (.goto 4, 3) := by decide +kernel
theorem dX9_isPart_74 : decode cX9_isPart 74 = .ok (.iconst 0, 1) := by decide +kernel
theorem dX9_isPart_75 : decode cX9_isPart 75 = .ok (.ireturn, 1) := by decide +kernel
theorem dX9_change_0 : decode cX9_change 0 = .ok (.aload_n 0, 1) := by decide +kernel
theorem dX9_change_1 : decode cX9_change 1 = .ok (.iload_n 1, 1) := by decide +kernel
theorem dX9_change_2 : decode cX9_change 2 = .ok (.invokevirtual 66, 3) := by decide +kernel
theorem dX9_change_5 : decode cX9_change 5 = .ok (.ifCond .eq 11, 3) := by decide +kernel
theorem dX9_change_8 : decode cX9_change 8 = .ok (.iload_n 2, 1) := by decide +kernel
theorem dX9_change_9 : decode cX9_change 9 = .ok (.iload_n 3, 1) := by decide +kernel
theorem dX9_change_10 : decode cX9_change 10 = .ok (.invokestatic 82, 3) := by decide +kernel
theorem dX9_change_13 : decode cX9_change 13 = .ok (.ifCond .ne 10, 3) := by decide +kernel
theorem dX9_change_16 : decode cX9_change 16 = .ok (.aload_n 0, 1) := by decide +kernel
theorem dX9_change_17 : decode cX9_change 17 = .ok (.ldc 37, 2) := by decide +kernel
theorem dX9_change_19 : decode cX9_change 19 = .ok (.invokevirtual 51, 3) := by decide +kernel
theorem dX9_change_22 : decode cX9_change 22 = .ok (.ireturn, 1) := by decide +kernel
theorem dX9_change_23 : decode cX9_change 23 = .ok (.aload_n 0, 1) := by decide +kernel
theorem dX9_change_24 : decode cX9_change 24 = .ok (.iload_n 1, 1) := by decide +kernel
theorem dX9_change_25 : decode cX9_change 25 = .ok (.iload_n 2, 1) := by decide +kernel
theorem dX9_change_26 : decode cX9_change 26 = .ok (.invokevirtual 60, 3) := by decide +kernel
theorem dX9_change_29 : decode cX9_change 29 = .ok (.istore 4, 2) := by decide +kernel
theorem dX9_change_31 : decode cX9_change 31 = .ok (.aload_n 0, 1) := by decide +kernel
theorem dX9_change_32 : decode cX9_change 32 = .ok (.getfield 7, 3) := by decide +kernel
theorem dX9_change_35 : decode cX9_change 35 = .ok (.iload_n 1, 1) := by decide +kernel
theorem dX9_change_36 : decode cX9_change 36 = .ok (.iload_n 2, 1) := by decide +kernel
theorem dX9_change_37 : decode cX9_change 37 = .ok (.invokestatic 45, 3) := by decide +kernel
theorem dX9_change_40 : decode cX9_change 40 = .ok (.iload_n 3, 1) := by decide +kernel
theorem dX9_change_41 : decode cX9_change 41 = .ok (.iastore, 1) := by decide +kernel
theorem dX9_change_42 : decode cX9_change 42 = .ok (.iload 4, 2) := by decide +kernel
theorem dX9_change_44 : decode cX9_change 44 = .ok (.ireturn, 1) := by decide +kernel
theorem dX9_placed_0 : decode cX9_placed 0 = .ok (.iconst 0, 1) := by decide +kernel
theorem dX9_placed_1 : decode cX9_placed 1 = .ok (.istore_n 2, 1) := by decide +kernel
theorem dX9_placed_2 : decode cX9_placed 2 = .ok (.iconst 0, 1) := by decide +kernel
theorem dX9_placed_3 : decode cX9_placed 3 = .ok (.istore_n 3, 1) := by decide +kernel
theorem dX9_placed_4 : decode cX9_placed 4 = .ok (.iload_n 3, 1) := by decide +kernel
theorem dX9_placed_5 : decode cX9_placed 5 = .ok (.aload_n 0, 1) := by decide +kernel
theorem dX9_placed_6 : decode cX9_placed 6 = .ok (.getfield 7, 3) := by decide +kernel
theorem dX9_placed_9 : decode cX9_placed 9 = .ok (.iconst 1, 1) := by decide +kernel
theorem dX9_placed_10 : decode cX9_placed 10 = .ok (.iaload, 1) := by decide +kernel
theorem dX9_placed_11 : decode cX9_placed 11 = .ok (.if_icmp .ge 29, 3) := by decide +kernel
theorem dX9_placed_14 : decode cX9_placed 14 = .ok (.iload_n 2, 1) := by decide +kernel
theorem dX9_placed_15 : decode cX9_placed 15 = .ok (.aload_n 0, 1) := by decide +kernel
theorem dX9_placed_16 : decode cX9_placed 16 = .ok (.iload_n 3, 1) := by decide +kernel
theorem dX9_placed_17 : decode cX9_placed 17 = .ok (.iconst 4, 1) := by decide +kernel
theorem dX9_placed_18 : decode cX9_placed 18 = .ok (.invokevirtual 60, 3) := by decide +kernel
theorem dX9_placed_21 : decode cX9_placed 21 = .ok (.iload_n 1, 1) := by decide +kernel
theorem dX9_placed_22 : decode cX9_placed 22 = .ok (.if_icmp .ne 9, 3) := by decide +kernel
theorem dX9_placed_25 : decode cX9_placed 25 = .ok (.iconst 1, 1) := by decide +kernel
theorem dX9_placed_26 : decode cX9_placed 26 = .ok (.iload_n 3, 1) := by decide +kernel
theorem dX9_placed_27 : decode cX9_placed 27 = .ok (.ishl, 1) := by decide +kernel
theorem dX9_placed_28 : decode cX9_placed 28 = .ok (.goto 4, 3) := by decide +kernel
theorem dX9_placed_31 : decode cX9_placed 31 = .ok (.iconst 0, 1) := by decide +kernel
theorem dX9_placed_32 : decode cX9_placed 32 = .ok (.ior, 1) := by decide +kernel
theorem dX9_placed_33 : decode cX9_placed 33 = .ok (.istore_n 2, 1) := by decide +kernel
theorem dX9_placed_34 : decode cX9_placed 34 = .ok (.iinc 3 1, 3) := by decide +kernel
theorem dX9_placed_37 : decode cX9_placed 37 = .ok (.goto (-33), 3) := by decide +kernel
theorem dX9_placed_40 : decode cX9_placed 40 = .ok (.iload_n 2, 1) := by decide +kernel
theorem dX9_placed_41 : decode cX9_placed 41 = .ok (.ireturn, 1) := by decide +kernel
theorem dX9_ones_0 : decode cX9_ones 0 = .ok (.iconst 0, 1) := by decide +kernel
theorem dX9_ones_1 : decode cX9_ones 1 = .ok (.istore_n 1, 1) := by decide +kernel
theorem dX9_ones_2 : decode cX9_ones 2 = .ok (.iload_n 0, 1) := by decide +kernel
theorem dX9_ones_3 : decode cX9_ones 3 = .ok (.istore_n 2, 1) := by decide +kernel
theorem dX9_ones_4 : decode cX9_ones 4 = .ok (.iload_n 2, 1) := by decide +kernel
theorem dX9_ones_5 : decode cX9_ones 5 = .ok (.ifCond .eq 15, 3) := by decide +kernel
theorem dX9_ones_8 : decode cX9_ones 8 = .ok (.iinc 1 1, 3) := by decide +kernel
theorem dX9_ones_11 : decode cX9_ones 11 = .ok (.iload_n 2, 1) := by decide +kernel
theorem dX9_ones_12 : decode cX9_ones 12 = .ok (.iload_n 2, 1) := by decide +kernel
theorem dX9_ones_13 : decode cX9_ones 13 = .ok (.iconst 1, 1) := by decide +kernel
theorem dX9_ones_14 : decode cX9_ones 14 = .ok (.isub, 1) := by decide +kernel
theorem dX9_ones_15 : decode cX9_ones 15 = .ok (.iand, 1) := by decide +kernel
theorem dX9_ones_16 : decode cX9_ones 16 = .ok (.istore_n 2, 1) := by decide +kernel
theorem dX9_ones_17 : decode cX9_ones 17 = .ok (.goto (-13), 3) := by decide +kernel
theorem dX9_ones_20 : decode cX9_ones 20 = .ok (.iload_n 1, 1) := by decide +kernel
theorem dX9_ones_21 : decode cX9_ones 21 = .ok (.ireturn, 1) := by decide +kernel
theorem dX9_isRoom_0 : decode cX9_isRoom 0 = .ok (.iload_n 1, 1) := by decide +kernel
theorem dX9_isRoom_1 : decode cX9_isRoom 1 = .ok (.iconst 1, 1) := by decide +kernel
theorem dX9_isRoom_2 : decode cX9_isRoom 2 = .ok (.if_icmp .ne 23, 3) := by decide +kernel
theorem dX9_isRoom_5 : decode cX9_isRoom 5 = .ok (.aload_n 0, 1) := by decide +kernel
theorem dX9_isRoom_6 : decode cX9_isRoom 6 = .ok (.iconst 1, 1) := by decide +kernel
theorem dX9_isRoom_7 : decode cX9_isRoom 7 = .ok (.invokevirtual 86, 3) := by decide +kernel
theorem dX9_isRoom_10 : decode cX9_isRoom 10 = .ok (.invokestatic 89, 3) := by decide +kernel
theorem dX9_isRoom_13 : decode cX9_isRoom 13 = .ok (.iconst 2, 1) := by decide +kernel
theorem dX9_isRoom_14 : decode cX9_isRoom 14 = .ok (.if_icmp .ge 7, 3) := by decide +kernel
theorem dX9_isRoom_17 : decode cX9_isRoom 17 = .ok (.iconst 1, 1) := by decide +kernel
theorem dX9_isRoom_18 : decode cX9_isRoom 18 = .ok (.goto 29, 3) := by decide +kernel
theorem dX9_isRoom_21 : decode cX9_isRoom 21 = .ok (.iconst 0, 1) := by decide +kernel
theorem dX9_isRoom_22 : decode cX9_isRoom 22 = .ok (.goto 25, 3) := by decide +kernel
theorem dX9_isRoom_25 : decode cX9_isRoom 25 = .ok (.iload_n 1, 1) := by decide +kernel
theorem dX9_isRoom_26 : decode cX9_isRoom 26 = .ok (.iconst 2, 1) := by decide +kernel
theorem dX9_isRoom_27 : decode cX9_isRoom 27 = .ok (.if_icmp .ne 15, 3) := by decide +kernel
theorem dX9_isRoom_30 : decode cX9_isRoom 30 = .ok (.aload_n 0, 1) := by decide +kernel
theorem dX9_isRoom_31 : decode cX9_isRoom 31 = .ok (.iconst 2, 1) := by decide +kernel
theorem dX9_isRoom_32 : decode cX9_isRoom 32 = .ok (.invokevirtual 86, 3) := by decide +kernel
theorem dX9_isRoom_35 : decode cX9_isRoom 35 = .ok (.invokestatic 89, 3) := by decide +kernel
theorem dX9_isRoom_38 : decode cX9_isRoom 38 = .ok (.iconst 4, 1) := by decide +kernel
theorem dX9_isRoom_39 : decode cX9_isRoom 39 = .ok (.if_icmp .ge 7, 3) := by decide +kernel
theorem dX9_isRoom_42 : decode cX9_isRoom 42 = .ok (.iconst 1, 1) := by decide +kernel
theorem dX9_isRoom_43 : decode cX9_isRoom 43 = .ok (.goto 4, 3) := by decide +kernel
theorem dX9_isRoom_46 : decode cX9_isRoom 46 = .ok (.iconst 0, 1) := by decide +kernel
theorem dX9_isRoom_47 : decode cX9_isRoom 47 = .ok (.ireturn, 1) := by decide +kernel
theorem dX9_goes_0 : decode cX9_goes 0 = .ok (.aload_n 0, 1) := by decide +kernel
theorem dX9_goes_1 : decode cX9_goes 1 = .ok (.getfield 7, 3) := by decide +kernel
theorem dX9_goes_4 : decode cX9_goes 4 = .ok (.bipush 11, 2) := by decide +kernel
theorem dX9_goes_6 : decode cX9_goes 6 = .ok (.dup2, 1) := by decide +kernel
theorem dX9_goes_7 : decode cX9_goes 7 = .ok (.iaload, 1) := by decide +kernel
theorem dX9_goes_8 : decode cX9_goes 8 = .ok (.aload_n 0, 1) := by decide +kernel
theorem dX9_goes_9 : decode cX9_goes 9 = .ok (.iload_n 1, 1) := by decide +kernel
theorem dX9_goes_10 : decode cX9_goes 10 = .ok (.iconst 1, 1) := by decide +kernel
theorem dX9_goes_11 : decode cX9_goes 11 = .ok (.invokevirtual 60, 3) := by decide +kernel
theorem dX9_goes_14 : decode cX9_goes 14 = .ok (.iadd, 1) := by decide +kernel
theorem dX9_goes_15 : decode cX9_goes 15 = .ok (.iastore, 1) := by decide +kernel
theorem dX9_goes_16 : decode cX9_goes 16 = .ok (.aload_n 0, 1) := by decide +kernel
theorem dX9_goes_17 : decode cX9_goes 17 = .ok (.getfield 7, 3) := by decide +kernel
theorem dX9_goes_20 : decode cX9_goes 20 = .ok (.iload_n 1, 1) := by decide +kernel
theorem dX9_goes_21 : decode cX9_goes 21 = .ok (.iconst 1, 1) := by decide +kernel
theorem dX9_goes_22 : decode cX9_goes 22 = .ok (.invokestatic 45, 3) := by decide +kernel
theorem dX9_goes_25 : decode cX9_goes 25 = .ok (.iconst 0, 1) := by decide +kernel
theorem dX9_goes_26 : decode cX9_goes 26 = .ok (.iastore, 1) := by decide +kernel
theorem dX9_goes_27 : decode cX9_goes 27 = .ok (.aload_n 0, 1) := by decide +kernel
theorem dX9_goes_28 : decode cX9_goes 28 = .ok (.getfield 7, 3) := by decide +kernel
theorem dX9_goes_31 : decode cX9_goes 31 = .ok (.iload_n 1, 1) := by decide +kernel
theorem dX9_goes_32 : decode cX9_goes 32 = .ok (.iconst 4, 1) := by decide +kernel
theorem dX9_goes_33 : decode cX9_goes 33 = .ok (.invokestatic 45, 3) := by decide +kernel
theorem dX9_goes_36 : decode cX9_goes 36 = .ok (.iconst 4, 1) := by decide +kernel
theorem dX9_goes_37 : decode cX9_goes 37 = .ok (.iastore, 1) := by decide +kernel
theorem dX9_goes_38 : decode cX9_goes 38 = .ok (.return_, 1) := by decide +kernel
theorem dX9_putsAt_0 : decode cX9_putsAt 0 = .ok (.iload_n 2, 1) := by decide +kernel
theorem dX9_putsAt_1 : decode cX9_putsAt 1 = .ok (.iconst 4, 1) := by decide +kernel
theorem dX9_putsAt_2 : decode cX9_putsAt 2 = .ok (.if_icmp .ne 11, 3) := by decide +kernel
theorem dX9_putsAt_5 : decode cX9_putsAt 5 = .ok (.aload_n 0, 1) := by decide +kernel
theorem dX9_putsAt_6 : decode cX9_putsAt 6 = .ok (.iload_n 1, 1) := by decide +kernel
theorem dX9_putsAt_7 : decode cX9_putsAt 7 = .ok (.invokevirtual 92, 3) := by decide +kernel
theorem dX9_putsAt_10 : decode cX9_putsAt 10 = .ok (.goto 39, 3) := by decide +kernel
theorem dX9_putsAt_13 : decode cX9_putsAt 13 = .ok (.aload_n 0, 1) := by decide +kernel
theorem dX9_putsAt_14 : decode cX9_putsAt 14 = .ok (.getfield 7, 3) := by decide +kernel
theorem dX9_putsAt_17 : decode cX9_putsAt 17 = .ok (.iload_n 1, 1) := by decide +kernel
theorem dX9_putsAt_18 : decode cX9_putsAt 18 = .ok (.iconst 4, 1) := by decide +kernel
theorem dX9_putsAt_19 : decode cX9_putsAt 19 = .ok (.invokestatic 45, 3) := by decide +kernel
theorem dX9_putsAt_22 : decode cX9_putsAt 22 = .ok (.iload_n 2, 1) := by decide +kernel
theorem dX9_putsAt_23 : decode cX9_putsAt 23 = .ok (.iastore, 1) := by decide +kernel
theorem dX9_putsAt_24 : decode cX9_putsAt 24 = .ok (.aload_n 0, 1) := by decide +kernel
theorem dX9_putsAt_25 : decode cX9_putsAt 25 = .ok (.getfield 7, 3) := by decide +kernel
theorem dX9_putsAt_28 : decode cX9_putsAt 28 = .ok (.iload_n 1, 1) := by decide +kernel
theorem dX9_putsAt_29 : decode cX9_putsAt 29 = .ok (.iconst 3, 1) := by decide +kernel
theorem dX9_putsAt_30 : decode cX9_putsAt 30 = .ok (.invokestatic 45, 3) := by decide +kernel
theorem dX9_putsAt_33 : decode cX9_putsAt 33 = .ok (.iload_n 2, 1) := by decide +kernel
theorem dX9_putsAt_34 : decode cX9_putsAt 34 = .ok (.iconst 3, 1) := by decide +kernel
theorem dX9_putsAt_35 : decode cX9_putsAt 35 = .ok (.if_icmp .ne 7, 3) := by decide +kernel
theorem dX9_putsAt_38 : decode cX9_putsAt 38 = .ok (.iconst 0, 1) := by decide +kernel
theorem dX9_putsAt_39 : decode cX9_putsAt 39 = .ok (.goto 9, 3) := by decide +kernel
theorem dX9_putsAt_42 : decode cX9_putsAt 42 = .ok (.aload_n 0, 1) := by decide +kernel
theorem dX9_putsAt_43 : decode cX9_putsAt 43 = .ok (.iload_n 1, 1) := by decide +kernel
theorem dX9_putsAt_44 : decode cX9_putsAt 44 = .ok (.iconst 3, 1) := by decide +kernel
theorem dX9_putsAt_45 : decode cX9_putsAt 45 = .ok (.invokevirtual 60, 3) := by decide +kernel
theorem dX9_putsAt_48 : decode cX9_putsAt 48 = .ok (.iastore, 1) := by decide +kernel
theorem dX9_putsAt_49 : decode cX9_putsAt 49 = .ok (.return_, 1) := by decide +kernel
theorem dX9_put_0 : decode cX9_put 0 = .ok (.aload_n 0, 1) := by decide +kernel
theorem dX9_put_1 : decode cX9_put 1 = .ok (.iload_n 1, 1) := by decide +kernel
theorem dX9_put_2 : decode cX9_put 2 = .ok (.invokevirtual 66, 3) := by decide +kernel
theorem dX9_put_5 : decode cX9_put 5 = .ok (.ifCond .eq 15, 3) := by decide +kernel
theorem dX9_put_8 : decode cX9_put 8 = .ok (.iload_n 2, 1) := by decide +kernel
theorem dX9_put_9 : decode cX9_put 9 = .ok (.i2l, 1) := by decide +kernel
theorem dX9_put_10 : decode cX9_put 10 = .ok (.lconst 1, 1) := by decide +kernel
theorem dX9_put_11 : decode cX9_put 11 = .ok (.ldc2_w 96, 3) := by decide +kernel
theorem dX9_put_14 : decode cX9_put 14 = .ok (.invokestatic 38, 3) := by decide +kernel
theorem dX9_put_17 : decode cX9_put 17 = .ok (.ifCond .ne 10, 3) := by decide +kernel
theorem dX9_put_20 : decode cX9_put 20 = .ok (.aload_n 0, 1) := by decide +kernel
theorem dX9_put_21 : decode cX9_put 21 = .ok (.ldc 37, 2) := by decide +kernel
theorem dX9_put_23 : decode cX9_put 23 = .ok (.invokevirtual 51, 3) := by decide +kernel
theorem dX9_put_26 : decode cX9_put 26 = .ok (.ireturn, 1) := by decide +kernel
theorem dX9_put_27 : decode cX9_put 27 = .ok (.aload_n 0, 1) := by decide +kernel
theorem dX9_put_28 : decode cX9_put 28 = .ok (.iload_n 1, 1) := by decide +kernel
theorem dX9_put_29 : decode cX9_put 29 = .ok (.iconst 4, 1) := by decide +kernel
theorem dX9_put_30 : decode cX9_put 30 = .ok (.invokevirtual 60, 3) := by decide +kernel
theorem dX9_put_33 : decode cX9_put 33 = .ok (.istore_n 3, 1) := by decide +kernel
theorem dX9_put_34 : decode cX9_put 34 = .ok (.iload_n 3, 1) := by decide +kernel
theorem dX9_put_35 : decode cX9_put 35 = .ok (.iconst 4, 1) := by decide +kernel
theorem dX9_put_36 : decode cX9_put 36 = .ok (.if_icmp .eq 8, 3) := by decide +kernel
theorem dX9_put_39 : decode cX9_put 39 = .ok (.iload_n 3, 1) := by decide +kernel
theorem dX9_put_40 : decode cX9_put 40 = .ok (.iload_n 2, 1) := by decide +kernel
theorem dX9_put_41 : decode cX9_put 41 = .ok (.if_icmp .ne 10, 3) := by decide +kernel
theorem dX9_put_44 : decode cX9_put 44 = .ok (.aload_n 0, 1) := by decide +kernel
theorem dX9_put_45 : decode cX9_put 45 = .ok (.ldc 98, 2) := by decide +kernel
theorem dX9_put_47 : decode cX9_put 47 = .ok (.invokevirtual 51, 3) := by decide +kernel
theorem dX9_put_50 : decode cX9_put 50 = .ok (.ireturn, 1) := by decide +kernel
theorem dX9_put_51 : decode cX9_put 51 = .ok (.aload_n 0, 1) := by decide +kernel
theorem dX9_put_52 : decode cX9_put 52 = .ok (.iload_n 2, 1) := by decide +kernel
theorem dX9_put_53 : decode cX9_put 53 = .ok (.invokevirtual 99, 3) := by decide +kernel
theorem dX9_put_56 : decode cX9_put 56 = .ok (.ifCond .ne 10, 3) := by decide +kernel
theorem dX9_put_59 : decode cX9_put 59 = .ok (.aload_n 0, 1) := by decide +kernel
theorem dX9_put_60 : decode cX9_put 60 = .ok (.ldc 55, 2) := by decide +kernel
theorem dX9_put_62 : decode cX9_put 62 = .ok (.invokevirtual 51, 3) := by decide +kernel
theorem dX9_put_65 : decode cX9_put 65 = .ok (.ireturn, 1) := by decide +kernel
theorem dX9_put_66 : decode cX9_put 66 = .ok (.aload_n 0, 1) := by decide +kernel
theorem dX9_put_67 : decode cX9_put 67 = .ok (.iload_n 1, 1) := by decide +kernel
theorem dX9_put_68 : decode cX9_put 68 = .ok (.iload_n 2, 1) := by decide +kernel
theorem dX9_put_69 : decode cX9_put 69 = .ok (.invokevirtual 102, 3) := by decide +kernel
theorem dX9_put_72 : decode cX9_put 72 = .ok (.iload_n 3, 1) := by decide +kernel
theorem dX9_put_73 : decode cX9_put 73 = .ok (.ireturn, 1) := by decide +kernel
theorem dX9_heats_0 : decode cX9_heats 0 = .ok (.aload_n 0, 1) := by decide +kernel
theorem dX9_heats_1 : decode cX9_heats 1 = .ok (.iload_n 1, 1) := by decide +kernel
theorem dX9_heats_2 : decode cX9_heats 2 = .ok (.invokevirtual 66, 3) := by decide +kernel
theorem dX9_heats_5 : decode cX9_heats 5 = .ok (.ifCond .eq 24, 3) := by decide +kernel
theorem dX9_heats_8 : decode cX9_heats 8 = .ok (.iload_n 2, 1) := by decide +kernel
theorem dX9_heats_9 : decode cX9_heats 9 = .ok (.i2l, 1) := by decide +kernel
theorem dX9_heats_10 : decode cX9_heats 10 = .ok (.lconst 0, 1) := by decide +kernel
theorem dX9_heats_11 : decode cX9_heats 11 = .ok (.ldc2_w 106, 3) := by decide +kernel
theorem dX9_heats_14 : decode cX9_heats 14 = .ok (.invokestatic 38, 3) := by decide +kernel
theorem dX9_heats_17 : decode cX9_heats 17 = .ok (.ifCond .eq 12, 3) := by decide +kernel
theorem dX9_heats_20 : decode cX9_heats 20 = .ok (.aload_n 0, 1) := by decide +kernel
theorem dX9_heats_21 : decode cX9_heats 21 = .ok (.iload_n 1, 1) := by decide +kernel
theorem dX9_heats_22 : decode cX9_heats 22 = .ok (.iload_n 2, 1) := by decide +kernel
theorem dX9_heats_23 : decode cX9_heats 23 = .ok (.invokevirtual 108, 3) := by decide +kernel
theorem dX9_heats_26 : decode cX9_heats 26 = .ok (.goto 9, 3) := by decide +kernel
theorem dX9_heats_29 : decode cX9_heats 29 = .ok (.aload_n 0, 1) := by decide +kernel
theorem dX9_heats_30 : decode cX9_heats 30 = .ok (.ldc 37, 2) := by decide +kernel
theorem dX9_heats_32 : decode cX9_heats 32 = .ok (.invokevirtual 51, 3) := by decide +kernel
theorem dX9_heats_35 : decode cX9_heats 35 = .ok (.ireturn, 1) := by decide +kernel
theorem dX9_isReady_0 : decode cX9_isReady 0 = .ok (.aload_n 0, 1) := by decide +kernel
theorem dX9_isReady_1 : decode cX9_isReady 1 = .ok (.iload_n 1, 1) := by decide +kernel
theorem dX9_isReady_2 : decode cX9_isReady 2 = .ok (.iconst 2, 1) := by decide +kernel
theorem dX9_isReady_3 : decode cX9_isReady 3 = .ok (.invokevirtual 60, 3) := by decide +kernel
theorem dX9_isReady_6 : decode cX9_isReady 6 = .ok (.aload_n 0, 1) := by decide +kernel
theorem dX9_isReady_7 : decode cX9_isReady 7 = .ok (.iload_n 1, 1) := by decide +kernel
theorem dX9_isReady_8 : decode cX9_isReady 8 = .ok (.invokevirtual 63, 3) := by decide +kernel
theorem dX9_isReady_11 : decode cX9_isReady 11 = .ok (.if_icmp .lt 7, 3) := by decide +kernel
theorem dX9_isReady_14 : decode cX9_isReady 14 = .ok (.iconst 1, 1) := by decide +kernel
theorem dX9_isReady_15 : decode cX9_isReady 15 = .ok (.goto 4, 3) := by decide +kernel
theorem dX9_isReady_18 : decode cX9_isReady 18 = .ok (.iconst 0, 1) := by decide +kernel
theorem dX9_isReady_19 : decode cX9_isReady 19 = .ok (.ireturn, 1) := by decide +kernel
theorem dX9_isBurnt_0 : decode cX9_isBurnt 0 = .ok (.aload_n 0, 1) := by decide +kernel
theorem dX9_isBurnt_1 : decode cX9_isBurnt 1 = .ok (.iload_n 1, 1) := by decide +kernel
theorem dX9_isBurnt_2 : decode cX9_isBurnt 2 = .ok (.iconst 2, 1) := by decide +kernel
theorem dX9_isBurnt_3 : decode cX9_isBurnt 3 = .ok (.invokevirtual 60, 3) := by decide +kernel
theorem dX9_isBurnt_6 : decode cX9_isBurnt 6 = .ok (.aload_n 0, 1) := by decide +kernel
theorem dX9_isBurnt_7 : decode cX9_isBurnt 7 = .ok (.iload_n 1, 1) := by decide +kernel
theorem dX9_isBurnt_8 : decode cX9_isBurnt 8 = .ok (.invokevirtual 72, 3) := by decide +kernel
theorem dX9_isBurnt_11 : decode cX9_isBurnt 11 = .ok (.if_icmp .lt 7, 3) := by decide +kernel
theorem dX9_isBurnt_14 : decode cX9_isBurnt 14 = .ok (.iconst 1, 1) := by decide +kernel
theorem dX9_isBurnt_15 : decode cX9_isBurnt 15 = .ok (.goto 4, 3) := by decide +kernel
theorem dX9_isBurnt_18 : decode cX9_isBurnt 18 = .ok (.iconst 0, 1) := by decide +kernel
theorem dX9_isBurnt_19 : decode cX9_isBurnt 19 = .ok (.ireturn, 1) := by decide +kernel
theorem dX9_howIs_0 : decode cX9_howIs 0 = .ok (.aload_n 0, 1) := by decide +kernel
theorem dX9_howIs_1 : decode cX9_howIs 1 = .ok (.iload_n 1, 1) := by decide +kernel
theorem dX9_howIs_2 : decode cX9_howIs 2 = .ok (.iconst 3, 1) := by decide +kernel
theorem dX9_howIs_3 : decode cX9_howIs 3 = .ok (.invokevirtual 60, 3) := by decide +kernel
theorem dX9_howIs_6 : decode cX9_howIs 6 = .ok (.istore_n 2, 1) := by decide +kernel
theorem dX9_howIs_7 : decode cX9_howIs 7 = .ok (.aload_n 0, 1) := by decide +kernel
theorem dX9_howIs_8 : decode cX9_howIs 8 = .ok (.iload_n 1, 1) := by decide +kernel
theorem dX9_howIs_9 : decode cX9_howIs 9 = .ok (.iconst 4, 1) := by decide +kernel
theorem dX9_howIs_10 : decode cX9_howIs 10 = .ok (.invokevirtual 60, 3) := by decide +kernel
theorem dX9_howIs_13 : decode cX9_howIs 13 = .ok (.iconst 4, 1) := by decide +kernel
theorem dX9_howIs_14 : decode cX9_howIs 14 = .ok (.if_icmp .ne 5, 3) := by decide +kernel
theorem dX9_howIs_17 : decode cX9_howIs 17 = .ok (.iconst 5, 1) := by decide +kernel
theorem dX9_howIs_18 : decode cX9_howIs 18 = .ok (.ireturn, 1) := by decide +kernel
theorem dX9_howIs_19 : decode cX9_howIs 19 = .ok (.aload_n 0, 1) := by decide +kernel
theorem dX9_howIs_20 : decode cX9_howIs 20 = .ok (.iload_n 1, 1) := by decide +kernel
theorem dX9_howIs_21 : decode cX9_howIs 21 = .ok (.invokevirtual 111, 3) := by decide +kernel
theorem dX9_howIs_24 : decode cX9_howIs 24 = .ok (.ifCond .eq 7, 3) := by decide +kernel
theorem dX9_howIs_27 : decode cX9_howIs 27 = .ok (.iconst 4, 1) := by decide +kernel
theorem dX9_howIs_28 : decode cX9_howIs 28 = .ok (.goto 36, 3) := by decide +kernel
theorem dX9_howIs_31 : decode cX9_howIs 31 = .ok (.aload_n 0, 1) := by decide +kernel
theorem dX9_howIs_32 : decode cX9_howIs 32 = .ok (.iload_n 1, 1) := by decide +kernel
theorem dX9_howIs_33 : decode cX9_howIs 33 = .ok (.invokevirtual 114, 3) := by decide +kernel
theorem dX9_howIs_36 : decode cX9_howIs 36 = .ok (.ifCond .ne 7, 3) := by decide +kernel
theorem dX9_howIs_39 : decode cX9_howIs 39 = .ok (.iconst 0, 1) := by decide +kernel
theorem dX9_howIs_40 : decode cX9_howIs 40 = .ok (.goto 24, 3) := by decide +kernel
theorem dX9_howIs_43 : decode cX9_howIs 43 = .ok (.iload_n 2, 1) := by decide +kernel
theorem dX9_howIs_44 : decode cX9_howIs 44 = .ok (.bipush 11, 2) := by decide +kernel
theorem dX9_howIs_46 : decode cX9_howIs 46 = .ok (.if_icmp .ge 7, 3) := by decide +kernel
theorem dX9_howIs_49 : decode cX9_howIs 49 = .ok (.iconst 1, 1) := by decide +kernel
theorem dX9_howIs_50 : decode cX9_howIs 50 = .ok (.goto 14, 3) := by decide +kernel
theorem dX9_howIs_53 : decode cX9_howIs 53 = .ok (.iload_n 2, 1) := by decide +kernel
theorem dX9_howIs_54 : decode cX9_howIs 54 = .ok (.bipush 26, 2) := by decide +kernel
theorem dX9_howIs_56 : decode cX9_howIs 56 = .ok (.if_icmp .ge 7, 3) := by decide +kernel
theorem dX9_howIs_59 : decode cX9_howIs 59 = .ok (.iconst 2, 1) := by decide +kernel
theorem dX9_howIs_60 : decode cX9_howIs 60 = .ok (.goto 4, 3) := by decide +kernel
theorem dX9_howIs_63 : decode cX9_howIs 63 = .ok (.iconst 3, 1) := by decide +kernel
theorem dX9_howIs_64 : decode cX9_howIs 64 = .ok (.ireturn, 1) := by decide +kernel
theorem dX9_how_0 : decode cX9_how 0 = .ok (.aload_n 0, 1) := by decide +kernel
theorem dX9_how_1 : decode cX9_how 1 = .ok (.iload_n 1, 1) := by decide +kernel
theorem dX9_how_2 : decode cX9_how 2 = .ok (.invokevirtual 66, 3) := by decide +kernel
theorem dX9_how_5 : decode cX9_how 5 = .ok (.ifCond .eq 11, 3) := by decide +kernel
theorem dX9_how_8 : decode cX9_how 8 = .ok (.aload_n 0, 1) := by decide +kernel
theorem dX9_how_9 : decode cX9_how 9 = .ok (.iload_n 1, 1) := by decide +kernel
theorem dX9_how_10 : decode cX9_how 10 = .ok (.invokevirtual 117, 3) := by decide +kernel
theorem dX9_how_13 : decode cX9_how 13 = .ok (.goto 9, 3) := by decide +kernel
theorem dX9_how_16 : decode cX9_how 16 = .ok (.aload_n 0, 1) := by decide +kernel
theorem dX9_how_17 : decode cX9_how 17 = .ok (.ldc 37, 2) := by decide +kernel
theorem dX9_how_19 : decode cX9_how 19 = .ok (.invokevirtual 51, 3) := by decide +kernel
theorem dX9_how_22 : decode cX9_how 22 = .ok (.ireturn, 1) := by decide +kernel
theorem dX9_dueAll_0 : decode cX9_dueAll 0 = .ok (.iconst 0, 1) := by decide +kernel
theorem dX9_dueAll_1 : decode cX9_dueAll 1 = .ok (.istore_n 1, 1) := by decide +kernel
theorem dX9_dueAll_2 : decode cX9_dueAll 2 = .ok (.iconst 0, 1) := by decide +kernel
theorem dX9_dueAll_3 : decode cX9_dueAll 3 = .ok (.istore_n 2, 1) := by decide +kernel
theorem dX9_dueAll_4 : decode cX9_dueAll 4 = .ok (.iload_n 2, 1) := by decide +kernel
theorem dX9_dueAll_5 : decode cX9_dueAll 5 = .ok (.bipush 7, 2) := by decide +kernel
theorem dX9_dueAll_7 : decode cX9_dueAll 7 = .ok (.if_icmp .ge 21, 3) := by decide +kernel
theorem dX9_dueAll_10 : decode cX9_dueAll 10 = .ok (.iload_n 1, 1) := by decide +kernel
theorem dX9_dueAll_11 : decode cX9_dueAll 11 = .ok (.aload_n 0, 1) := by decide +kernel
theorem dX9_dueAll_12 : decode cX9_dueAll 12 = .ok (.getfield 7, 3) := by decide +kernel
theorem dX9_dueAll_15 : decode cX9_dueAll 15 = .ok (.bipush 13, 2) := by decide +kernel
theorem dX9_dueAll_17 : decode cX9_dueAll 17 = .ok (.iload_n 2, 1) := by decide +kernel
theorem dX9_dueAll_18 : decode cX9_dueAll 18 = .ok (.iadd, 1) := by decide +kernel
theorem dX9_dueAll_19 : decode cX9_dueAll 19 = .ok (.iaload, 1) := by decide +kernel
theorem dX9_dueAll_20 : decode cX9_dueAll 20 = .ok (.iadd, 1) := by decide +kernel
theorem dX9_dueAll_21 : decode cX9_dueAll 21 = .ok (.istore_n 1, 1) := by decide +kernel
theorem dX9_dueAll_22 : decode cX9_dueAll 22 = .ok (.iinc 2 1, 3) := by decide +kernel
theorem dX9_dueAll_25 : decode cX9_dueAll 25 = .ok (.goto (-21), 3) := by decide +kernel
theorem dX9_dueAll_28 : decode cX9_dueAll 28 = .ok (.iload_n 1, 1) := by decide +kernel
theorem dX9_dueAll_29 : decode cX9_dueAll 29 = .ok (.ireturn, 1) := by decide +kernel
theorem dX9_shovel_0 : decode cX9_shovel 0 = .ok (.iload_n 1, 1) := by decide +kernel
theorem dX9_shovel_1 : decode cX9_shovel 1 = .ok (.i2l, 1) := by decide +kernel
theorem dX9_shovel_2 : decode cX9_shovel 2 = .ok (.lconst 1, 1) := by decide +kernel
theorem dX9_shovel_3 : decode cX9_shovel 3 = .ok (.ldc2_w 78, 3) := by decide +kernel
theorem dX9_shovel_6 : decode cX9_shovel 6 = .ok (.invokestatic 38, 3) := by decide +kernel
theorem dX9_shovel_9 : decode cX9_shovel 9 = .ok (.ifCond .ne 10, 3) := by decide +kernel
theorem dX9_shovel_12 : decode cX9_shovel 12 = .ok (.aload_n 0, 1) := by decide +kernel
theorem dX9_shovel_13 : decode cX9_shovel 13 = .ok (.ldc 37, 2) := by decide +kernel
theorem dX9_shovel_15 : decode cX9_shovel 15 = .ok (.invokevirtual 51, 3) := by decide +kernel
theorem dX9_shovel_18 : decode cX9_shovel 18 = .ok (.ireturn, 1) := by decide +kernel
theorem dX9_shovel_19 : decode cX9_shovel 19 = .ok (.aload_n 0, 1) := by decide +kernel
theorem dX9_shovel_20 : decode cX9_shovel 20 = .ok (.getfield 7, 3) := by decide +kernel
theorem dX9_shovel_23 : decode cX9_shovel 23 = .ok (.bipush 19, 2) := by decide +kernel
theorem dX9_shovel_25 : decode cX9_shovel 25 = .ok (.dup2, 1) := by decide +kernel
theorem dX9_shovel_26 : decode cX9_shovel 26 = .ok (.iaload, 1) := by decide +kernel
theorem dX9_shovel_27 : decode cX9_shovel 27 = .ok (.iload_n 1, 1) := by decide +kernel
theorem dX9_shovel_28 : decode cX9_shovel 28 = .ok (.iadd, 1) := by decide +kernel
theorem dX9_shovel_29 : decode cX9_shovel 29 = .ok (.iastore, 1) := by decide +kernel
theorem dX9_shovel_30 : decode cX9_shovel 30 = .ok (.aload_n 0, 1) := by decide +kernel
theorem dX9_shovel_31 : decode cX9_shovel 31 = .ok (.invokevirtual 120, 3) := by decide +kernel
theorem dX9_shovel_34 : decode cX9_shovel 34 = .ok (.ireturn, 1) := by decide +kernel
theorem dX9_rule_0 : decode cX9_rule 0 = .ok (.iload_n 1, 1) := by decide +kernel
theorem dX9_rule_1 : decode cX9_rule 1 = .ok (.i2l, 1) := by decide +kernel
theorem dX9_rule_2 : decode cX9_rule 2 = .ok (.lconst 0, 1) := by decide +kernel
theorem dX9_rule_3 : decode cX9_rule 3 = .ok (.ldc2_w 124, 3) := by decide +kernel
theorem dX9_rule_6 : decode cX9_rule 6 = .ok (.invokestatic 38, 3) := by decide +kernel
theorem dX9_rule_9 : decode cX9_rule 9 = .ok (.ifCond .eq 36, 3) := by decide +kernel
theorem dX9_rule_12 : decode cX9_rule 12 = .ok (.iload_n 2, 1) := by decide +kernel
theorem dX9_rule_13 : decode cX9_rule 13 = .ok (.i2l, 1) := by decide +kernel
theorem dX9_rule_14 : decode cX9_rule 14 = .ok (.lconst 0, 1) := by decide +kernel
theorem dX9_rule_15 : decode cX9_rule 15 = .ok (.iload_n 1, 1) := by decide +kernel
theorem dX9_rule_16 : decode cX9_rule 16 = .ok (.ifCond .ne 9, 3) := by decide +kernel
theorem dX9_rule_19 : decode cX9_rule 19 = .ok (.ldc2_w 106, 3) := by decide +kernel
theorem dX9_rule_22 : decode cX9_rule 22 = .ok (.goto 17, 3) := by decide +kernel
theorem dX9_rule_25 : decode cX9_rule 25 = .ok (.iload_n 1, 1) := by decide +kernel
theorem dX9_rule_26 : decode cX9_rule 26 = .ok (.iconst 1, 1) := by decide +kernel
theorem dX9_rule_27 : decode cX9_rule 27 = .ok (.if_icmp .ne 9, 3) := by decide +kernel
theorem dX9_rule_30 : decode cX9_rule 30 = .ok (.ldc2_w 126, 3) := by decide +kernel
theorem dX9_rule_33 : decode cX9_rule 33 = .ok (.goto 6, 3) := by decide +kernel
theorem dX9_rule_36 : decode cX9_rule 36 = .ok (.ldc2_w 78, 3) := by decide +kernel
theorem dX9_rule_39 : decode cX9_rule 39 = .ok (.invokestatic 38, 3) := by decide +kernel
theorem dX9_rule_42 : decode cX9_rule 42 = .ok (.ifCond .ne 10, 3) := by decide +kernel
theorem dX9_rule_45 : decode cX9_rule 45 = .ok (.aload_n 0, 1) := by decide +kernel
theorem dX9_rule_46 : decode cX9_rule 46 = .ok (.ldc 37, 2) := by decide +kernel
theorem dX9_rule_48 : decode cX9_rule 48 = .ok (.invokevirtual 51, 3) := by decide +kernel
theorem dX9_rule_51 : decode cX9_rule 51 = .ok (.ireturn, 1) := by decide +kernel
theorem dX9_rule_52 : decode cX9_rule 52 = .ok (.aload_n 0, 1) := by decide +kernel
theorem dX9_rule_53 : decode cX9_rule 53 = .ok (.getfield 7, 3) := by decide +kernel
theorem dX9_rule_56 : decode cX9_rule 56 = .ok (.iconst 4, 1) := by decide +kernel
theorem dX9_rule_57 : decode cX9_rule 57 = .ok (.iload_n 1, 1) := by decide +kernel
theorem dX9_rule_58 : decode cX9_rule 58 = .ok (.iadd, 1) := by decide +kernel
theorem dX9_rule_59 : decode cX9_rule 59 = .ok (.iaload, 1) := by decide +kernel
theorem dX9_rule_60 : decode cX9_rule 60 = .ok (.istore_n 3, 1) := by decide +kernel
theorem dX9_rule_61 : decode cX9_rule 61 = .ok (.aload_n 0, 1) := by decide +kernel
theorem dX9_rule_62 : decode cX9_rule 62 = .ok (.getfield 7, 3) := by decide +kernel
theorem dX9_rule_65 : decode cX9_rule 65 = .ok (.iconst 4, 1) := by decide +kernel
theorem dX9_rule_66 : decode cX9_rule 66 = .ok (.iload_n 1, 1) := by decide +kernel
theorem dX9_rule_67 : decode cX9_rule 67 = .ok (.iadd, 1) := by decide +kernel
theorem dX9_rule_68 : decode cX9_rule 68 = .ok (.iload_n 2, 1) := by decide +kernel
theorem dX9_rule_69 : decode cX9_rule 69 = .ok (.iastore, 1) := by decide +kernel
theorem dX9_rule_70 : decode cX9_rule 70 = .ok (.iload_n 3, 1) := by decide +kernel
theorem dX9_rule_71 : decode cX9_rule 71 = .ok (.ireturn, 1) := by decide +kernel
theorem dX9_walks_0 : decode cX9_walks 0 = .ok (.iload_n 1, 1) := by decide +kernel
theorem dX9_walks_1 : decode cX9_walks 1 = .ok (.aload_n 0, 1) := by decide +kernel
theorem dX9_walks_2 : decode cX9_walks 2 = .ok (.getfield 7, 3) := by decide +kernel
theorem dX9_walks_5 : decode cX9_walks 5 = .ok (.bipush 8, 2) := by decide +kernel
theorem dX9_walks_7 : decode cX9_walks 7 = .ok (.iaload, 1) := by decide +kernel
theorem dX9_walks_8 : decode cX9_walks 8 = .ok (.if_icmp .ge 15, 3) := by decide +kernel
theorem dX9_walks_11 : decode cX9_walks 11 = .ok (.aload_n 0, 1) := by decide +kernel
theorem dX9_walks_12 : decode cX9_walks 12 = .ok (.getfield 7, 3) := by decide +kernel
theorem dX9_walks_15 : decode cX9_walks 15 = .ok (.bipush 8, 2) := by decide +kernel
theorem dX9_walks_17 : decode cX9_walks 17 = .ok (.iaload, 1) := by decide +kernel
theorem dX9_walks_18 : decode cX9_walks 18 = .ok (.iload_n 1, 1) := by decide +kernel
theorem dX9_walks_19 : decode cX9_walks 19 = .ok (.isub, 1) := by decide +kernel
theorem dX9_walks_20 : decode cX9_walks 20 = .ok (.goto 12, 3) := by decide +kernel
theorem dX9_walks_23 : decode cX9_walks 23 = .ok (.iload_n 1, 1) := by decide +kernel
theorem dX9_walks_24 : decode cX9_walks 24 = .ok (.aload_n 0, 1) := by decide +kernel
theorem dX9_walks_25 : decode cX9_walks 25 = .ok (.getfield 7, 3) := by decide +kernel
theorem dX9_walks_28 : decode cX9_walks 28 = .ok (.bipush 8, 2) := by decide +kernel
theorem dX9_walks_30 : decode cX9_walks 30 = .ok (.iaload, 1) := by decide +kernel
theorem dX9_walks_31 : decode cX9_walks 31 = .ok (.isub, 1) := by decide +kernel
theorem dX9_walks_32 : decode cX9_walks 32 = .ok (.istore_n 2, 1) := by decide +kernel
theorem dX9_walks_33 : decode cX9_walks 33 = .ok (.aload_n 0, 1) := by decide +kernel
theorem dX9_walks_34 : decode cX9_walks 34 = .ok (.getfield 7, 3) := by decide +kernel
theorem dX9_walks_37 : decode cX9_walks 37 = .ok (.bipush 9, 2) := by decide +kernel
theorem dX9_walks_39 : decode cX9_walks 39 = .ok (.iconst 3, 1) := by decide +kernel
theorem dX9_walks_40 : decode cX9_walks 40 = .ok (.iload_n 2, 1) := by decide +kernel
theorem dX9_walks_41 : decode cX9_walks 41 = .ok (.imul, 1) := by decide +kernel
theorem dX9_walks_42 : decode cX9_walks 42 = .ok (.iastore, 1) := by decide +kernel
theorem dX9_walks_43 : decode cX9_walks 43 = .ok (.aload_n 0, 1) := by decide +kernel
theorem dX9_walks_44 : decode cX9_walks 44 = .ok (.getfield 7, 3) := by decide +kernel
theorem dX9_walks_47 : decode cX9_walks 47 = .ok (.bipush 8, 2) := by decide +kernel
theorem dX9_walks_49 : decode cX9_walks 49 = .ok (.iload_n 1, 1) := by decide +kernel
theorem dX9_walks_50 : decode cX9_walks 50 = .ok (.iastore, 1) := by decide +kernel
theorem dX9_walks_51 : decode cX9_walks 51 = .ok (.return_, 1) := by decide +kernel
theorem dX9_walk_0 : decode cX9_walk 0 = .ok (.iload_n 1, 1) := by decide +kernel
theorem dX9_walk_1 : decode cX9_walk 1 = .ok (.invokestatic 128, 3) := by decide +kernel
theorem dX9_walk_4 : decode cX9_walk 4 = .ok (.ifCond .ne 10, 3) := by decide +kernel
theorem dX9_walk_7 : decode cX9_walk 7 = .ok (.aload_n 0, 1) := by decide +kernel
theorem dX9_walk_8 : decode cX9_walk 8 = .ok (.ldc 37, 2) := by decide +kernel
theorem dX9_walk_10 : decode cX9_walk 10 = .ok (.invokevirtual 51, 3) := by decide +kernel
theorem dX9_walk_13 : decode cX9_walk 13 = .ok (.ireturn, 1) := by decide +kernel
theorem dX9_walk_14 : decode cX9_walk 14 = .ok (.aload_n 0, 1) := by decide +kernel
theorem dX9_walk_15 : decode cX9_walk 15 = .ok (.getfield 7, 3) := by decide +kernel
theorem dX9_walk_18 : decode cX9_walk 18 = .ok (.bipush 9, 2) := by decide +kernel
theorem dX9_walk_20 : decode cX9_walk 20 = .ok (.iaload, 1) := by decide +kernel
theorem dX9_walk_21 : decode cX9_walk 21 = .ok (.ifCond .le 10, 3) := by decide +kernel
theorem dX9_walk_24 : decode cX9_walk 24 = .ok (.aload_n 0, 1) := by decide +kernel
theorem dX9_walk_25 : decode cX9_walk 25 = .ok (.ldc 98, 2) := by decide +kernel
theorem dX9_walk_27 : decode cX9_walk 27 = .ok (.invokevirtual 51, 3) := by decide +kernel
theorem dX9_walk_30 : decode cX9_walk 30 = .ok (.ireturn, 1) := by decide +kernel
theorem dX9_walk_31 : decode cX9_walk 31 = .ok (.aload_n 0, 1) := by decide +kernel
theorem dX9_walk_32 : decode cX9_walk 32 = .ok (.iload_n 1, 1) := by decide +kernel
theorem dX9_walk_33 : decode cX9_walk 33 = .ok (.invokevirtual 131, 3) := by decide +kernel
theorem dX9_walk_36 : decode cX9_walk 36 = .ok (.aload_n 0, 1) := by decide +kernel
theorem dX9_walk_37 : decode cX9_walk 37 = .ok (.getfield 7, 3) := by decide +kernel
theorem dX9_walk_40 : decode cX9_walk 40 = .ok (.bipush 9, 2) := by decide +kernel
theorem dX9_walk_42 : decode cX9_walk 42 = .ok (.iaload, 1) := by decide +kernel
theorem dX9_walk_43 : decode cX9_walk 43 = .ok (.ireturn, 1) := by decide +kernel
theorem dX9_who_0 : decode cX9_who 0 = .ok (.bipush 70, 2) := by decide +kernel
theorem dX9_who_2 : decode cX9_who 2 = .ok (.iconst 3, 1) := by decide +kernel
theorem dX9_who_3 : decode cX9_who 3 = .ok (.iload_n 0, 1) := by decide +kernel
theorem dX9_who_4 : decode cX9_who 4 = .ok (.imul, 1) := by decide +kernel
theorem dX9_who_5 : decode cX9_who 5 = .ok (.iadd, 1) := by decide +kernel
theorem dX9_who_6 : decode cX9_who 6 = .ok (.iload_n 1, 1) := by decide +kernel
theorem dX9_who_7 : decode cX9_who 7 = .ok (.iadd, 1) := by decide +kernel
theorem dX9_who_8 : decode cX9_who 8 = .ok (.ireturn, 1) := by decide +kernel
theorem dX9_told_0 : decode cX9_told 0 = .ok (.aload_n 0, 1) := by decide +kernel
theorem dX9_told_1 : decode cX9_told 1 = .ok (.getfield 7, 3) := by decide +kernel
theorem dX9_told_4 : decode cX9_told 4 = .ok (.iload_n 1, 1) := by decide +kernel
theorem dX9_told_5 : decode cX9_told 5 = .ok (.iload_n 2, 1) := by decide +kernel
theorem dX9_told_6 : decode cX9_told 6 = .ok (.invokestatic 134, 3) := by decide +kernel
theorem dX9_told_9 : decode cX9_told 9 = .ok (.iaload, 1) := by decide +kernel
theorem dX9_told_10 : decode cX9_told 10 = .ok (.ireturn, 1) := by decide +kernel
theorem dX9_isFigure_0 : decode cX9_isFigure 0 = .ok (.iload_n 0, 1) := by decide +kernel
theorem dX9_isFigure_1 : decode cX9_isFigure 1 = .ok (.ifCond .ne 10, 3) := by decide +kernel
theorem dX9_isFigure_4 : decode cX9_isFigure 4 = .ok (.iload_n 1, 1) := by decide +kernel
theorem dX9_isFigure_5 : decode cX9_isFigure 5 = .ok (.invokestatic 128, 3) := by decide +kernel
theorem dX9_isFigure_8 : decode cX9_isFigure 8 = .ok (.goto 29, 3) := by decide +kernel
theorem dX9_isFigure_11 : decode cX9_isFigure 11 = .ok (.iload_n 0, 1) := by decide +kernel
theorem dX9_isFigure_12 : decode cX9_isFigure 12 = .ok (.iconst 1, 1) := by decide +kernel
theorem dX9_isFigure_13 : decode cX9_isFigure 13 = .ok (.if_icmp .ne 15, 3) := by decide +kernel
theorem dX9_isFigure_16 : decode cX9_isFigure 16 = .ok (.iload_n 1, 1) := by decide +kernel
theorem dX9_isFigure_17 : decode cX9_isFigure 17 = .ok (.i2l, 1) := by decide +kernel
theorem dX9_isFigure_18 : decode cX9_isFigure 18 = .ok (.lconst 0, 1) := by decide +kernel
theorem dX9_isFigure_19 : decode cX9_isFigure 19 = .ok (.ldc2_w 80, 3) := by decide +kernel
theorem dX9_isFigure_22 : decode cX9_isFigure 22 = .ok (.invokestatic 38, 3) := by decide +kernel
theorem dX9_isFigure_25 : decode cX9_isFigure 25 = .ok (.goto 12, 3) := by decide +kernel
theorem dX9_isFigure_28 : decode cX9_isFigure 28 = .ok (.iload_n 1, 1) := by decide +kernel
theorem dX9_isFigure_29 : decode cX9_isFigure 29 = .ok (.i2l, 1) := by decide +kernel
theorem dX9_isFigure_30 : decode cX9_isFigure 30 = .ok (.lconst 0, 1) := by decide +kernel
theorem dX9_isFigure_31 : decode cX9_isFigure 31 = .ok (.ldc2_w 137, 3) := by decide +kernel
theorem dX9_isFigure_34 : decode cX9_isFigure 34 = .ok (.invokestatic 38, 3) := by decide +kernel
theorem dX9_isFigure_37 : decode cX9_isFigure 37 = .ok (.ireturn, 1) := by decide +kernel
theorem dX9_newCrowd_0 : decode cX9_newCrowd 0 = .ok (.aload_n 0, 1) := by decide +kernel
theorem dX9_newCrowd_1 : decode cX9_newCrowd 1 = .ok (.getfield 7, 3) := by decide +kernel
theorem dX9_newCrowd_4 : decode cX9_newCrowd 4 = .ok (.iconst 2, 1) := by decide +kernel
theorem dX9_newCrowd_5 : decode cX9_newCrowd 5 = .ok (.iaload, 1) := by decide +kernel
theorem dX9_newCrowd_6 : decode cX9_newCrowd 6 = .ok (.istore 4, 2) := by decide +kernel
theorem dX9_newCrowd_8 : decode cX9_newCrowd 8 = .ok (.aload_n 0, 1) := by decide +kernel
theorem dX9_newCrowd_9 : decode cX9_newCrowd 9 = .ok (.getfield 7, 3) := by decide +kernel
theorem dX9_newCrowd_12 : decode cX9_newCrowd 12 = .ok (.iload 4, 2) := by decide +kernel
theorem dX9_newCrowd_14 : decode cX9_newCrowd 14 = .ok (.iconst 0, 1) := by decide +kernel
theorem dX9_newCrowd_15 : decode cX9_newCrowd 15 = .ok (.invokestatic 134, 3) := by decide +kernel
theorem dX9_newCrowd_18 : decode cX9_newCrowd 18 = .ok (.iload_n 1, 1) := by decide +kernel
theorem dX9_newCrowd_19 : decode cX9_newCrowd 19 = .ok (.iastore, 1) := by decide +kernel
theorem dX9_newCrowd_20 : decode cX9_newCrowd 20 = .ok (.aload_n 0, 1) := by decide +kernel
theorem dX9_newCrowd_21 : decode cX9_newCrowd 21 = .ok (.getfield 7, 3) := by decide +kernel
theorem dX9_newCrowd_24 : decode cX9_newCrowd 24 = .ok (.iload 4, 2) := by decide +kernel
theorem dX9_newCrowd_26 : decode cX9_newCrowd 26 = .ok (.iconst 1, 1) := by decide +kernel
theorem dX9_newCrowd_27 : decode cX9_newCrowd 27 = .ok (.invokestatic 134, 3) := by decide +kernel
theorem dX9_newCrowd_30 : decode cX9_newCrowd 30 = .ok (.iload_n 2, 1) := by decide +kernel
theorem dX9_newCrowd_31 : decode cX9_newCrowd 31 = .ok (.iastore, 1) := by decide +kernel
theorem dX9_newCrowd_32 : decode cX9_newCrowd 32 = .ok (.aload_n 0, 1) := by decide +kernel
theorem dX9_newCrowd_33 : decode cX9_newCrowd 33 = .ok (.getfield 7, 3) := by decide +kernel
theorem dX9_newCrowd_36 : decode cX9_newCrowd 36 = .ok (.iload 4, 2) := by decide +kernel
theorem dX9_newCrowd_38 : decode cX9_newCrowd 38 = .ok (.iconst 2, 1) := by decide +kernel
theorem dX9_newCrowd_39 : decode cX9_newCrowd 39 = .ok (.invokestatic 134, 3) := by decide +kernel
theorem dX9_newCrowd_42 : decode cX9_newCrowd 42 = .ok (.iload_n 3, 1) := by decide +kernel
theorem dX9_newCrowd_43 : decode cX9_newCrowd 43 = .ok (.iastore, 1) := by decide +kernel
theorem dX9_newCrowd_44 : decode cX9_newCrowd 44 = .ok (.aload_n 0, 1) := by decide +kernel
theorem dX9_newCrowd_45 : decode cX9_newCrowd 45 = .ok (.getfield 7, 3) := by decide +kernel
theorem dX9_newCrowd_48 : decode cX9_newCrowd 48 = .ok (.iconst 2, 1) := by decide +kernel
theorem dX9_newCrowd_49 : decode cX9_newCrowd 49 = .ok (.dup2, 1) := by decide +kernel
theorem dX9_newCrowd_50 : decode cX9_newCrowd 50 = .ok (.iaload, 1) := by decide +kernel
theorem dX9_newCrowd_51 : decode cX9_newCrowd 51 = .ok (.iconst 1, 1) := by decide +kernel
theorem dX9_newCrowd_52 : decode cX9_newCrowd 52 = .ok (.iadd, 1) := by decide +kernel
theorem dX9_newCrowd_53 : decode cX9_newCrowd 53 = .ok (.iastore, 1) := by decide +kernel
theorem dX9_newCrowd_54 : decode cX9_newCrowd 54 = .ok (.iload 4, 2) := by decide +kernel
theorem dX9_newCrowd_56 : decode cX9_newCrowd 56 = .ok (.ireturn, 1) := by decide +kernel
theorem dX9_crowd_0 : decode cX9_crowd 0 = .ok (.iload_n 1, 1) := by decide +kernel
theorem dX9_crowd_1 : decode cX9_crowd 1 = .ok (.invokestatic 128, 3) := by decide +kernel
theorem dX9_crowd_4 : decode cX9_crowd 4 = .ok (.ifCond .eq 19, 3) := by decide +kernel
theorem dX9_crowd_7 : decode cX9_crowd 7 = .ok (.iconst 1, 1) := by decide +kernel
theorem dX9_crowd_8 : decode cX9_crowd 8 = .ok (.iload_n 2, 1) := by decide +kernel
theorem dX9_crowd_9 : decode cX9_crowd 9 = .ok (.invokestatic 139, 3) := by decide +kernel
theorem dX9_crowd_12 : decode cX9_crowd 12 = .ok (.ifCond .eq 11, 3) := by decide +kernel
theorem dX9_crowd_15 : decode cX9_crowd 15 = .ok (.iconst 2, 1) := by decide +kernel
theorem dX9_crowd_16 : decode cX9_crowd 16 = .ok (.iload_n 3, 1) := by decide +kernel
theorem dX9_crowd_17 : decode cX9_crowd 17 = .ok (.invokestatic 139, 3) := by decide +kernel
theorem dX9_crowd_20 : decode cX9_crowd 20 = .ok (.ifCond .ne 10, 3) := by decide +kernel
theorem dX9_crowd_23 : decode cX9_crowd 23 = .ok (.aload_n 0, 1) := by decide +kernel
theorem dX9_crowd_24 : decode cX9_crowd 24 = .ok (.ldc 37, 2) := by decide +kernel
theorem dX9_crowd_26 : decode cX9_crowd 26 = .ok (.invokevirtual 51, 3) := by decide +kernel
theorem dX9_crowd_29 : decode cX9_crowd 29 = .ok (.ireturn, 1) := by decide +kernel
theorem dX9_crowd_30 : decode cX9_crowd 30 = .ok (.aload_n 0, 1) := by decide +kernel
theorem dX9_crowd_31 : decode cX9_crowd 31 = .ok (.getfield 7, 3) := by decide +kernel
theorem dX9_crowd_34 : decode cX9_crowd 34 = .ok (.iconst 2, 1) := by decide +kernel
theorem dX9_crowd_35 : decode cX9_crowd 35 = .ok (.iaload, 1) := by decide +kernel
theorem dX9_crowd_36 : decode cX9_crowd 36 = .ok (.bipush 12, 2) := by decide +kernel
theorem dX9_crowd_38 : decode cX9_crowd 38 = .ok (.if_icmp .ne 12, 3) := by decide +kernel
theorem dX9_crowd_41 : decode cX9_crowd 41 = .ok (.aload_n 0, 1) := by decide +kernel
theorem dX9_crowd_42 : decode cX9_crowd 42 = .ok (.ldc 55, 2) := by decide +kernel
theorem dX9_crowd_44 : decode cX9_crowd 44 = .ok (.invokevirtual 51, 3) := by decide +kernel
theorem dX9_crowd_47 : decode cX9_crowd 47 = .ok (.goto 10, 3) := by decide +kernel
theorem dX9_crowd_50 : decode cX9_crowd 50 = .ok (.aload_n 0, 1) := by decide +kernel
theorem dX9_crowd_51 : decode cX9_crowd 51 = .ok (.iload_n 1, 1) := by decide +kernel
theorem dX9_crowd_52 : decode cX9_crowd 52 = .ok (.iload_n 2, 1) := by decide +kernel
theorem dX9_crowd_53 : decode cX9_crowd 53 = .ok (.iload_n 3, 1) := by decide +kernel
theorem dX9_crowd_54 : decode cX9_crowd 54 = .ok (.invokevirtual 142, 3) := by decide +kernel
theorem dX9_crowd_57 : decode cX9_crowd 57 = .ok (.ireturn, 1) := by decide +kernel
theorem dX9_come_0 : decode cX9_come 0 = .ok (.aload_n 0, 1) := by decide +kernel
theorem dX9_come_1 : decode cX9_come 1 = .ok (.iload_n 1, 1) := by decide +kernel
theorem dX9_come_2 : decode cX9_come 2 = .ok (.iconst 2, 1) := by decide +kernel
theorem dX9_come_3 : decode cX9_come 3 = .ok (.invokevirtual 145, 3) := by decide +kernel
theorem dX9_come_6 : decode cX9_come 6 = .ok (.aload_n 0, 1) := by decide +kernel
theorem dX9_come_7 : decode cX9_come 7 = .ok (.getfield 7, 3) := by decide +kernel
theorem dX9_come_10 : decode cX9_come 10 = .ok (.bipush 6, 2) := by decide +kernel
theorem dX9_come_12 : decode cX9_come 12 = .ok (.iaload, 1) := by decide +kernel
theorem dX9_come_13 : decode cX9_come 13 = .ok (.iconst 1, 1) := by decide +kernel
theorem dX9_come_14 : decode cX9_come 14 = .ok (.iadd, 1) := by decide +kernel
theorem dX9_come_15 : decode cX9_come 15 = .ok (.imul, 1) := by decide +kernel
theorem dX9_come_16 : decode cX9_come 16 = .ok (.bipush 11, 2) := by decide +kernel
theorem dX9_come_18 : decode cX9_come 18 = .ok (.idiv, 1) := by decide +kernel
theorem dX9_come_19 : decode cX9_come 19 = .ok (.istore_n 2, 1) := by decide +kernel
theorem dX9_come_20 : decode cX9_come 20 = .ok (.iload_n 2, 1) := by decide +kernel
theorem dX9_come_21 : decode cX9_come 21 = .ok (.iload_n 2, 1) := by decide +kernel
theorem dX9_come_22 : decode cX9_come 22 = .ok (.aload_n 0, 1) := by decide +kernel
theorem dX9_come_23 : decode cX9_come 23 = .ok (.getfield 7, 3) := by decide +kernel
theorem dX9_come_26 : decode cX9_come 26 = .ok (.iconst 5, 1) := by decide +kernel
theorem dX9_come_27 : decode cX9_come 27 = .ok (.iaload, 1) := by decide +kernel
theorem dX9_come_28 : decode cX9_come 28 = .ok (.imul, 1) := by decide +kernel
theorem dX9_come_29 : decode cX9_come 29 = .ok (.bipush 100, 2) := by decide +kernel
theorem dX9_come_31 : decode cX9_come 31 = .ok (.idiv, 1) := by decide +kernel
theorem dX9_come_32 : decode cX9_come 32 = .ok (.isub, 1) := by decide +kernel
theorem dX9_come_33 : decode cX9_come 33 = .ok (.ireturn, 1) := by decide +kernel
theorem dX9_crowdOf_0 : decode cX9_crowdOf 0 = .ok (.aload_n 0, 1) := by decide +kernel
theorem dX9_crowdOf_1 : decode cX9_crowdOf 1 = .ok (.iload_n 1, 1) := by decide +kernel
theorem dX9_crowdOf_2 : decode cX9_crowdOf 2 = .ok (.invokevirtual 148, 3) := by decide +kernel
theorem dX9_crowdOf_5 : decode cX9_crowdOf 5 = .ok (.ifCond .eq 15, 3) := by decide +kernel
theorem dX9_crowdOf_8 : decode cX9_crowdOf 8 = .ok (.iload_n 2, 1) := by decide +kernel
theorem dX9_crowdOf_9 : decode cX9_crowdOf 9 = .ok (.i2l, 1) := by decide +kernel
theorem dX9_crowdOf_10 : decode cX9_crowdOf 10 = .ok (.lconst 0, 1) := by decide +kernel
theorem dX9_crowdOf_11 : decode cX9_crowdOf 11 = .ok (.ldc2_w 42, 3) := by decide +kernel
theorem dX9_crowdOf_14 : decode cX9_crowdOf 14 = .ok (.invokestatic 38, 3) := by decide +kernel
theorem dX9_crowdOf_17 : decode cX9_crowdOf 17 = .ok (.ifCond .ne 10, 3) := by decide +kernel
theorem dX9_crowdOf_20 : decode cX9_crowdOf 20 = .ok (.aload_n 0, 1) := by decide +kernel
theorem dX9_crowdOf_21 : decode cX9_crowdOf 21 = .ok (.ldc 37, 2) := by decide +kernel
theorem dX9_crowdOf_23 : decode cX9_crowdOf 23 = .ok (.invokevirtual 51, 3) := by decide +kernel
theorem dX9_crowdOf_26 : decode cX9_crowdOf 26 = .ok (.ireturn, 1) := by decide +kernel
theorem dX9_crowdOf_27 : decode cX9_crowdOf 27 = .ok (.iload_n 2, 1) := by decide +kernel
theorem dX9_crowdOf_28 : decode cX9_crowdOf 28 = .ok (.iconst 3, 1) := by decide +kernel
theorem dX9_crowdOf_29 : decode cX9_crowdOf 29 = .ok (.if_icmp .ge 12, 3) := by decide +kernel
theorem dX9_crowdOf_32 : decode cX9_crowdOf 32 = .ok (.aload_n 0, 1) := by decide +kernel
theorem dX9_crowdOf_33 : decode cX9_crowdOf 33 = .ok (.iload_n 1, 1) := by decide +kernel
theorem dX9_crowdOf_34 : decode cX9_crowdOf 34 = .ok (.iload_n 2, 1) := by decide +kernel
theorem dX9_crowdOf_35 : decode cX9_crowdOf 35 = .ok (.invokevirtual 145, 3) := by decide +kernel
theorem dX9_crowdOf_38 : decode cX9_crowdOf 38 = .ok (.goto 8, 3) := by decide +kernel
theorem dX9_crowdOf_41 : decode cX9_crowdOf 41 = .ok (.aload_n 0, 1) := by decide +kernel
theorem dX9_crowdOf_42 : decode cX9_crowdOf 42 = .ok (.iload_n 1, 1) := by decide +kernel
theorem dX9_crowdOf_43 : decode cX9_crowdOf 43 = .ok (.invokevirtual 151, 3) := by decide +kernel
theorem dX9_crowdOf_46 : decode cX9_crowdOf 46 = .ok (.ireturn, 1) := by decide +kernel
theorem dX9_late_0 : decode cX9_late 0 = .ok (.aload_n 0, 1) := by decide +kernel
theorem dX9_late_1 : decode cX9_late 1 = .ok (.iload_n 1, 1) := by decide +kernel
theorem dX9_late_2 : decode cX9_late 2 = .ok (.invokevirtual 148, 3) := by decide +kernel
theorem dX9_late_5 : decode cX9_late 5 = .ok (.ifCond .eq 23, 3) := by decide +kernel
theorem dX9_late_8 : decode cX9_late 8 = .ok (.iload_n 2, 1) := by decide +kernel
theorem dX9_late_9 : decode cX9_late 9 = .ok (.i2l, 1) := by decide +kernel
theorem dX9_late_10 : decode cX9_late 10 = .ok (.lconst 1, 1) := by decide +kernel
theorem dX9_late_11 : decode cX9_late 11 = .ok (.ldc2_w 124, 3) := by decide +kernel
theorem dX9_late_14 : decode cX9_late 14 = .ok (.invokestatic 38, 3) := by decide +kernel
theorem dX9_late_17 : decode cX9_late 17 = .ok (.ifCond .eq 11, 3) := by decide +kernel
theorem dX9_late_20 : decode cX9_late 20 = .ok (.iload_n 2, 1) := by decide +kernel
theorem dX9_late_21 : decode cX9_late 21 = .ok (.iload_n 3, 1) := by decide +kernel
theorem dX9_late_22 : decode cX9_late 22 = .ok (.invokestatic 139, 3) := by decide +kernel
theorem dX9_late_25 : decode cX9_late 25 = .ok (.ifCond .ne 10, 3) := by decide +kernel
theorem dX9_late_28 : decode cX9_late 28 = .ok (.aload_n 0, 1) := by decide +kernel
theorem dX9_late_29 : decode cX9_late 29 = .ok (.ldc 37, 2) := by decide +kernel
theorem dX9_late_31 : decode cX9_late 31 = .ok (.invokevirtual 51, 3) := by decide +kernel
theorem dX9_late_34 : decode cX9_late 34 = .ok (.ireturn, 1) := by decide +kernel
theorem dX9_late_35 : decode cX9_late 35 = .ok (.aload_n 0, 1) := by decide +kernel
theorem dX9_late_36 : decode cX9_late 36 = .ok (.iload_n 1, 1) := by decide +kernel
theorem dX9_late_37 : decode cX9_late 37 = .ok (.iload_n 2, 1) := by decide +kernel
theorem dX9_late_38 : decode cX9_late 38 = .ok (.invokevirtual 145, 3) := by decide +kernel
theorem dX9_late_41 : decode cX9_late 41 = .ok (.istore 4, 2) := by decide +kernel
theorem dX9_late_43 : decode cX9_late 43 = .ok (.aload_n 0, 1) := by decide +kernel
theorem dX9_late_44 : decode cX9_late 44 = .ok (.getfield 7, 3) := by decide +kernel
theorem dX9_late_47 : decode cX9_late 47 = .ok (.iload_n 1, 1) := by decide +kernel
theorem dX9_late_48 : decode cX9_late 48 = .ok (.iload_n 2, 1) := by decide +kernel
theorem dX9_late_49 : decode cX9_late 49 = .ok (.invokestatic 134, 3) := by decide +kernel
theorem dX9_late_52 : decode cX9_late 52 = .ok (.iload_n 3, 1) := by decide +kernel
theorem dX9_late_53 : decode cX9_late 53 = .ok (.iastore, 1) := by decide +kernel
theorem dX9_late_54 : decode cX9_late 54 = .ok (.iload 4, 2) := by decide +kernel
theorem dX9_late_56 : decode cX9_late 56 = .ok (.ireturn, 1) := by decide +kernel
theorem dX9_warms_0 : decode cX9_warms 0 = .ok (.aload_n 0, 1) := by decide +kernel
theorem dX9_warms_1 : decode cX9_warms 1 = .ok (.getfield 7, 3) := by decide +kernel
theorem dX9_warms_4 : decode cX9_warms 4 = .ok (.iconst 4, 1) := by decide +kernel
theorem dX9_warms_5 : decode cX9_warms 5 = .ok (.iaload, 1) := by decide +kernel
theorem dX9_warms_6 : decode cX9_warms 6 = .ok (.iconst 3, 1) := by decide +kernel
theorem dX9_warms_7 : decode cX9_warms 7 = .ok (.aload_n 0, 1) := by decide +kernel
theorem dX9_warms_8 : decode cX9_warms 8 = .ok (.getfield 7, 3) := by decide +kernel
theorem dX9_warms_11 : decode cX9_warms 11 = .ok (.bipush 13, 2) := by decide +kernel
theorem dX9_warms_13 : decode cX9_warms 13 = .ok (.iaload, 1) := by decide +kernel
theorem dX9_warms_14 : decode cX9_warms 14 = .ok (.imul, 1) := by decide +kernel
theorem dX9_warms_15 : decode cX9_warms 15 = .ok (.iadd, 1) := by decide +kernel
theorem dX9_warms_16 : decode cX9_warms 16 = .ok (.istore_n 1, 1) := by decide +kernel
theorem dX9_warms_17 : decode cX9_warms 17 = .ok (.iload_n 1, 1) := by decide +kernel
theorem dX9_warms_18 : decode cX9_warms 18 = .ok (.bipush 20, 2) := by decide +kernel
theorem dX9_warms_20 : decode cX9_warms 20 = .ok (.if_icmp .le 8, 3) := by decide +kernel
theorem dX9_warms_23 : decode cX9_warms 23 = .ok (.bipush 20, 2) := by decide +kernel
theorem dX9_warms_25 : decode cX9_warms 25 = .ok (.goto 4, 3) := by decide +kernel
theorem dX9_warms_28 : decode cX9_warms 28 = .ok (.iload_n 1, 1) := by decide +kernel
theorem dX9_warms_29 : decode cX9_warms 29 = .ok (.istore_n 1, 1) := by decide +kernel
theorem dX9_warms_30 : decode cX9_warms 30 = .ok (.iconst 0, 1) := by decide +kernel
theorem dX9_warms_31 : decode cX9_warms 31 = .ok (.istore_n 2, 1) := by decide +kernel
theorem dX9_warms_32 : decode cX9_warms 32 = .ok (.iload_n 2, 1) := by decide +kernel
theorem dX9_warms_33 : decode cX9_warms 33 = .ok (.bipush 6, 2) := by decide +kernel
theorem dX9_warms_35 : decode cX9_warms 35 = .ok (.if_icmp .ge 29, 3) := by decide +kernel
theorem dX9_warms_38 : decode cX9_warms 38 = .ok (.aload_n 0, 1) := by decide +kernel
theorem dX9_warms_39 : decode cX9_warms 39 = .ok (.getfield 7, 3) := by decide +kernel
theorem dX9_warms_42 : decode cX9_warms 42 = .ok (.bipush 13, 2) := by decide +kernel
theorem dX9_warms_44 : decode cX9_warms 44 = .ok (.iload_n 2, 1) := by decide +kernel
theorem dX9_warms_45 : decode cX9_warms 45 = .ok (.iadd, 1) := by decide +kernel
theorem dX9_warms_46 : decode cX9_warms 46 = .ok (.aload_n 0, 1) := by decide +kernel
theorem dX9_warms_47 : decode cX9_warms 47 = .ok (.getfield 7, 3) := by decide +kernel
theorem dX9_warms_50 : decode cX9_warms 50 = .ok (.bipush 13, 2) := by decide +kernel
theorem dX9_warms_52 : decode cX9_warms 52 = .ok (.iload_n 2, 1) := by decide +kernel
theorem dX9_warms_53 : decode cX9_warms 53 = .ok (.iadd, 1) := by decide +kernel
theorem dX9_warms_54 : decode cX9_warms 54 = .ok (.iconst 1, 1) := by decide +kernel
theorem dX9_warms_55 : decode cX9_warms 55 = .ok (.iadd, 1) := by decide +kernel
theorem dX9_warms_56 : decode cX9_warms 56 = .ok (.iaload, 1) := by decide +kernel
theorem dX9_warms_57 : decode cX9_warms 57 = .ok (.iastore, 1) := by decide +kernel
theorem dX9_warms_58 : decode cX9_warms 58 = .ok (.iinc 2 1, 3) := by decide +kernel
theorem dX9_warms_61 : decode cX9_warms 61 = .ok (.goto (-29), 3) := by decide +kernel
theorem dX9_warms_64 : decode cX9_warms 64 = .ok (.aload_n 0, 1) := by decide +kernel
theorem dX9_warms_65 : decode cX9_warms 65 = .ok (.getfield 7, 3) := by decide +kernel
theorem dX9_warms_68 : decode cX9_warms 68 = .ok (.bipush 19, 2) := by decide +kernel
theorem dX9_warms_70 : decode cX9_warms 70 = .ok (.iconst 0, 1) := by decide +kernel
theorem dX9_warms_71 : decode cX9_warms 71 = .ok (.iastore, 1) := by decide +kernel
theorem dX9_warms_72 : decode cX9_warms 72 = .ok (.aload_n 0, 1) := by decide +kernel
theorem dX9_warms_73 : decode cX9_warms 73 = .ok (.getfield 7, 3) := by decide +kernel
theorem dX9_warms_76 : decode cX9_warms 76 = .ok (.iconst 4, 1) := by decide +kernel
theorem dX9_warms_77 : decode cX9_warms 77 = .ok (.aload_n 0, 1) := by decide +kernel
theorem dX9_warms_78 : decode cX9_warms 78 = .ok (.getfield 7, 3) := by decide +kernel
theorem dX9_warms_81 : decode cX9_warms 81 = .ok (.iconst 0, 1) := by decide +kernel
theorem dX9_warms_82 : decode cX9_warms 82 = .ok (.iaload, 1) := by decide +kernel
theorem dX9_warms_83 : decode cX9_warms 83 = .ok (.iconst 5, 1) := by decide +kernel
theorem dX9_warms_84 : decode cX9_warms 84 = .ok (.irem, 1) := by decide +kernel
theorem dX9_warms_85 : decode cX9_warms 85 = .ok (.iconst 4, 1) := by decide +kernel
theorem dX9_warms_86 : decode cX9_warms 86 = .ok (.if_icmp .ne 13, 3) := by decide +kernel
theorem dX9_warms_89 : decode cX9_warms 89 = .ok (.iload_n 1, 1) := by decide +kernel
theorem dX9_warms_90 : decode cX9_warms 90 = .ok (.ifCond .le 9, 3) := by decide +kernel
theorem dX9_warms_93 : decode cX9_warms 93 = .ok (.iload_n 1, 1) := by decide +kernel
theorem dX9_warms_94 : decode cX9_warms 94 = .ok (.iconst 1, 1) := by decide +kernel
theorem dX9_warms_95 : decode cX9_warms 95 = .ok (.isub, 1) := by decide +kernel
theorem dX9_warms_96 : decode cX9_warms 96 = .ok (.goto 4, 3) := by decide +kernel
theorem dX9_warms_99 : decode cX9_warms 99 = .ok (.iload_n 1, 1) := by decide +kernel
theorem dX9_warms_100 : decode cX9_warms 100 = .ok (.iastore, 1) := by decide +kernel
theorem dX9_warms_101 : decode cX9_warms 101 = .ok (.return_, 1) := by decide +kernel
theorem dX9_roasts_0 : decode cX9_roasts 0 = .ok (.iconst 0, 1) := by decide +kernel
theorem dX9_roasts_1 : decode cX9_roasts 1 = .ok (.istore_n 1, 1) := by decide +kernel
theorem dX9_roasts_2 : decode cX9_roasts 2 = .ok (.iload_n 1, 1) := by decide +kernel
theorem dX9_roasts_3 : decode cX9_roasts 3 = .ok (.aload_n 0, 1) := by decide +kernel
theorem dX9_roasts_4 : decode cX9_roasts 4 = .ok (.getfield 7, 3) := by decide +kernel
theorem dX9_roasts_7 : decode cX9_roasts 7 = .ok (.iconst 1, 1) := by decide +kernel
theorem dX9_roasts_8 : decode cX9_roasts 8 = .ok (.iaload, 1) := by decide +kernel
theorem dX9_roasts_9 : decode cX9_roasts 9 = .ok (.if_icmp .ge 144, 3) := by decide +kernel
theorem dX9_roasts_12 : decode cX9_roasts 12 = .ok (.aload_n 0, 1) := by decide +kernel
theorem dX9_roasts_13 : decode cX9_roasts 13 = .ok (.iload_n 1, 1) := by decide +kernel
theorem dX9_roasts_14 : decode cX9_roasts 14 = .ok (.iconst 4, 1) := by decide +kernel
theorem dX9_roasts_15 : decode cX9_roasts 15 = .ok (.invokevirtual 60, 3) := by decide +kernel
theorem dX9_roasts_18 : decode cX9_roasts 18 = .ok (.istore_n 2, 1) := by decide +kernel
theorem dX9_roasts_19 : decode cX9_roasts 19 = .ok (.iload_n 2, 1) := by decide +kernel
theorem dX9_roasts_20 : decode cX9_roasts 20 = .ok (.iconst 1, 1) := by decide +kernel
theorem dX9_roasts_21 : decode cX9_roasts 21 = .ok (.if_icmp .eq 8, 3) := by decide +kernel
theorem dX9_roasts_24 : decode cX9_roasts 24 = .ok (.iload_n 2, 1) := by decide +kernel
theorem dX9_roasts_25 : decode cX9_roasts 25 = .ok (.iconst 2, 1) := by decide +kernel
theorem dX9_roasts_26 : decode cX9_roasts 26 = .ok (.if_icmp .ne 102, 3) := by decide +kernel
theorem dX9_roasts_29 : decode cX9_roasts 29 = .ok (.aload_n 0, 1) := by decide +kernel
theorem dX9_roasts_30 : decode cX9_roasts 30 = .ok (.iload_n 1, 1) := by decide +kernel
theorem dX9_roasts_31 : decode cX9_roasts 31 = .ok (.iconst 2, 1) := by decide +kernel
theorem dX9_roasts_32 : decode cX9_roasts 32 = .ok (.invokevirtual 60, 3) := by decide +kernel
theorem dX9_roasts_35 : decode cX9_roasts 35 = .ok (.aload_n 0, 1) := by decide +kernel
theorem dX9_roasts_36 : decode cX9_roasts 36 = .ok (.iload_n 1, 1) := by decide +kernel
theorem dX9_roasts_37 : decode cX9_roasts 37 = .ok (.iload_n 2, 1) := by decide +kernel
theorem dX9_roasts_38 : decode cX9_roasts 38 = .ok (.iconst 1, 1) := by decide +kernel
theorem dX9_roasts_39 : decode cX9_roasts 39 = .ok (.if_icmp .ne 12, 3) := by decide +kernel
theorem dX9_roasts_42 : decode cX9_roasts 42 = .ok (.aload_n 0, 1) := by decide +kernel
theorem dX9_roasts_43 : decode cX9_roasts 43 = .ok (.getfield 7, 3) := by decide +kernel
theorem dX9_roasts_46 : decode cX9_roasts 46 = .ok (.iconst 4, 1) := by decide +kernel
theorem dX9_roasts_47 : decode cX9_roasts 47 = .ok (.iaload, 1) := by decide +kernel
theorem dX9_roasts_48 : decode cX9_roasts 48 = .ok (.goto 11, 3) := by decide +kernel
theorem dX9_roasts_51 : decode cX9_roasts 51 = .ok (.aload_n 0, 1) := by decide +kernel
theorem dX9_roasts_52 : decode cX9_roasts 52 = .ok (.getfield 7, 3) := by decide +kernel
theorem dX9_roasts_55 : decode cX9_roasts 55 = .ok (.iconst 4, 1) := by decide +kernel
theorem dX9_roasts_56 : decode cX9_roasts 56 = .ok (.iaload, 1) := by decide +kernel
theorem dX9_roasts_57 : decode cX9_roasts 57 = .ok (.iconst 2, 1) := by decide +kernel
theorem dX9_roasts_58 : decode cX9_roasts 58 = .ok (.idiv, 1) := by decide +kernel
theorem dX9_roasts_59 : decode cX9_roasts 59 = .ok (.invokevirtual 108, 3) := by decide +kernel
theorem dX9_roasts_62 : decode cX9_roasts 62 = .ok (.iadd, 1) := by decide +kernel
theorem dX9_roasts_63 : decode cX9_roasts 63 = .ok (.istore_n 3, 1) := by decide +kernel
theorem dX9_roasts_64 : decode cX9_roasts 64 = .ok (.aload_n 0, 1) := by decide +kernel
theorem dX9_roasts_65 : decode cX9_roasts 65 = .ok (.getfield 7, 3) := by decide +kernel
theorem dX9_roasts_68 : decode cX9_roasts 68 = .ok (.iload_n 1, 1) := by decide +kernel
theorem dX9_roasts_69 : decode cX9_roasts 69 = .ok (.iconst 2, 1) := by decide +kernel
theorem dX9_roasts_70 : decode cX9_roasts 70 = .ok (.invokestatic 45, 3) := by decide +kernel
theorem dX9_roasts_73 : decode cX9_roasts 73 = .ok (.iload_n 3, 1) := by decide +kernel
theorem dX9_roasts_74 : decode cX9_roasts 74 = .ok (.sipush 999, 3) := by decide +kernel
theorem dX9_roasts_77 : decode cX9_roasts 77 = .ok (.if_icmp .ge 7, 3) := by decide +kernel
theorem dX9_roasts_80 : decode cX9_roasts 80 = .ok (.iload_n 3, 1) := by decide +kernel
theorem dX9_roasts_81 : decode cX9_roasts 81 = .ok (.goto 6, 3) := by decide +kernel
theorem dX9_roasts_84 : decode cX9_roasts 84 = .ok (.sipush 999, 3) := by decide +kernel
theorem dX9_roasts_87 : decode cX9_roasts 87 = .ok (.iastore, 1) := by decide +kernel
theorem dX9_roasts_88 : decode cX9_roasts 88 = .ok (.aload_n 0, 1) := by decide +kernel
theorem dX9_roasts_89 : decode cX9_roasts 89 = .ok (.iload_n 1, 1) := by decide +kernel
theorem dX9_roasts_90 : decode cX9_roasts 90 = .ok (.iconst 0, 1) := by decide +kernel
theorem dX9_roasts_91 : decode cX9_roasts 91 = .ok (.invokevirtual 60, 3) := by decide +kernel
theorem dX9_roasts_94 : decode cX9_roasts 94 = .ok (.iconst 4, 1) := by decide +kernel
theorem dX9_roasts_95 : decode cX9_roasts 95 = .ok (.if_icmp .ne 30, 3) := by decide +kernel
theorem dX9_roasts_98 : decode cX9_roasts 98 = .ok (.iload_n 2, 1) := by decide +kernel
theorem dX9_roasts_99 : decode cX9_roasts 99 = .ok (.iconst 1, 1) := by decide +kernel
theorem dX9_roasts_100 : decode cX9_roasts 100 = .ok (.if_icmp .ne 25, 3) := by decide +kernel
theorem dX9_roasts_103 : decode cX9_roasts 103 = .ok (.iload_n 3, 1) := by decide +kernel
theorem dX9_roasts_104 : decode cX9_roasts 104 = .ok (.bipush 60, 2) := by decide +kernel
theorem dX9_roasts_106 : decode cX9_roasts 106 = .ok (.if_icmp .lt 19, 3) := by decide +kernel
theorem dX9_roasts_109 : decode cX9_roasts 109 = .ok (.aload_n 0, 1) := by decide +kernel
theorem dX9_roasts_110 : decode cX9_roasts 110 = .ok (.getfield 7, 3) := by decide +kernel
theorem dX9_roasts_113 : decode cX9_roasts 113 = .ok (.iconst 4, 1) := by decide +kernel
theorem dX9_roasts_114 : decode cX9_roasts 114 = .ok (.iaload, 1) := by decide +kernel
theorem dX9_roasts_115 : decode cX9_roasts 115 = .ok (.bipush 8, 2) := by decide +kernel
theorem dX9_roasts_117 : decode cX9_roasts 117 = .ok (.if_icmp .lt 8, 3) := by decide +kernel
theorem dX9_roasts_120 : decode cX9_roasts 120 = .ok (.aload_n 0, 1) := by decide +kernel
theorem dX9_roasts_121 : decode cX9_roasts 121 = .ok (.iload_n 1, 1) := by decide +kernel
theorem dX9_roasts_122 : decode cX9_roasts 122 = .ok (.invokevirtual 92, 3) := by decide +kernel
theorem dX9_roasts_125 : decode cX9_roasts 125 = .ok (.goto 22, 3) := by decide +kernel
theorem dX9_roasts_128 : decode cX9_roasts 128 = .ok (.iload_n 2, 1) := by decide +kernel
theorem dX9_roasts_129 : decode cX9_roasts 129 = .ok (.iconst 3, 1) := by decide +kernel
theorem dX9_roasts_130 : decode cX9_roasts 130 = .ok (.if_icmp .ne 17, 3) := by decide +kernel
theorem dX9_roasts_133 : decode cX9_roasts 133 = .ok (.aload_n 0, 1) := by decide +kernel
theorem dX9_roasts_134 : decode cX9_roasts 134 = .ok (.getfield 7, 3) := by decide +kernel
theorem dX9_roasts_137 : decode cX9_roasts 137 = .ok (.iload_n 1, 1) := by decide +kernel
theorem dX9_roasts_138 : decode cX9_roasts 138 = .ok (.iconst 3, 1) := by decide +kernel
theorem dX9_roasts_139 : decode cX9_roasts 139 = .ok (.invokestatic 45, 3) := by decide +kernel
theorem dX9_roasts_142 : decode cX9_roasts 142 = .ok (.dup2, 1) := by decide +kernel
theorem dX9_roasts_143 : decode cX9_roasts 143 = .ok (.iaload, 1) := by decide +kernel
theorem dX9_roasts_144 : decode cX9_roasts 144 = .ok (.iconst 1, 1) := by decide +kernel
theorem dX9_roasts_145 : decode cX9_roasts 145 = .ok (.iadd, 1) := by decide +kernel
theorem dX9_roasts_146 : decode cX9_roasts 146 = .ok (.iastore, 1) := by decide +kernel
theorem dX9_roasts_147 : decode cX9_roasts 147 = .ok (.iinc 1 1, 3) := by decide +kernel
theorem dX9_roasts_150 : decode cX9_roasts 150 = .ok (.goto (-148), 3) := by decide +kernel
theorem dX9_roasts_153 : decode cX9_roasts 153 = .ok (.return_, 1) := by decide +kernel
theorem dX9_bought_0 : decode cX9_bought 0 = .ok (.iconst (-1), 1) := by decide +kernel
theorem dX9_bought_1 : decode cX9_bought 1 = .ok (.istore_n 2, 1) := by decide +kernel
theorem dX9_bought_2 : decode cX9_bought 2 = .ok (.iconst 0, 1) := by decide +kernel
theorem dX9_bought_3 : decode cX9_bought 3 = .ok (.istore_n 3, 1) := by decide +kernel
theorem dX9_bought_4 : decode cX9_bought 4 = .ok (.iload_n 3, 1) := by decide +kernel
theorem dX9_bought_5 : decode cX9_bought 5 = .ok (.aload_n 0, 1) := by decide +kernel
theorem dX9_bought_6 : decode cX9_bought 6 = .ok (.getfield 7, 3) := by decide +kernel
theorem dX9_bought_9 : decode cX9_bought 9 = .ok (.iconst 1, 1) := by decide +kernel
theorem dX9_bought_10 : decode cX9_bought 10 = .ok (.iaload, 1) := by decide +kernel
theorem dX9_bought_11 : decode cX9_bought 11 = .ok (.if_icmp .ge 74, 3) := by decide +kernel
theorem dX9_bought_14 : decode cX9_bought 14 = .ok (.aload_n 0, 1) := by decide +kernel
theorem dX9_bought_15 : decode cX9_bought 15 = .ok (.iload_n 3, 1) := by decide +kernel
theorem dX9_bought_16 : decode cX9_bought 16 = .ok (.iconst 4, 1) := by decide +kernel
theorem dX9_bought_17 : decode cX9_bought 17 = .ok (.invokevirtual 60, 3) := by decide +kernel
theorem dX9_bought_20 : decode cX9_bought 20 = .ok (.iconst 3, 1) := by decide +kernel
theorem dX9_bought_21 : decode cX9_bought 21 = .ok (.if_icmp .ne 25, 3) := by decide +kernel
theorem dX9_bought_24 : decode cX9_bought 24 = .ok (.aload_n 0, 1) := by decide +kernel
theorem dX9_bought_25 : decode cX9_bought 25 = .ok (.iload_n 3, 1) := by decide +kernel
theorem dX9_bought_26 : decode cX9_bought 26 = .ok (.iconst 1, 1) := by decide +kernel
theorem dX9_bought_27 : decode cX9_bought 27 = .ok (.invokevirtual 60, 3) := by decide +kernel
theorem dX9_bought_30 : decode cX9_bought 30 = .ok (.ifCond .le 16, 3) := by decide +kernel
theorem dX9_bought_33 : decode cX9_bought 33 = .ok (.aload_n 0, 1) := by decide +kernel
theorem dX9_bought_34 : decode cX9_bought 34 = .ok (.iload_n 3, 1) := by decide +kernel
theorem dX9_bought_35 : decode cX9_bought 35 = .ok (.invokevirtual 117, 3) := by decide +kernel
theorem dX9_bought_38 : decode cX9_bought 38 = .ok (.iload_n 1, 1) := by decide +kernel
theorem dX9_bought_39 : decode cX9_bought 39 = .ok (.if_icmp .ne 7, 3) := by decide +kernel
theorem dX9_bought_42 : decode cX9_bought 42 = .ok (.iconst 1, 1) := by decide +kernel
theorem dX9_bought_43 : decode cX9_bought 43 = .ok (.goto 4, 3) := by decide +kernel
theorem dX9_bought_46 : decode cX9_bought 46 = .ok (.iconst 0, 1) := by decide +kernel
theorem dX9_bought_47 : decode cX9_bought 47 = .ok (.istore 4, 2) := by decide +kernel
theorem dX9_bought_49 : decode cX9_bought 49 = .ok (.iload 4, 2) := by decide +kernel
theorem dX9_bought_51 : decode cX9_bought 51 = .ok (.ifCond .eq 26, 3) := by decide +kernel
theorem dX9_bought_54 : decode cX9_bought 54 = .ok (.iload_n 2, 1) := by decide +kernel
theorem dX9_bought_55 : decode cX9_bought 55 = .ok (.ifCond .lt 18, 3) := by decide +kernel
theorem dX9_bought_58 : decode cX9_bought 58 = .ok (.aload_n 0, 1) := by decide +kernel
theorem dX9_bought_59 : decode cX9_bought 59 = .ok (.iload_n 3, 1) := by decide +kernel
theorem dX9_bought_60 : decode cX9_bought 60 = .ok (.iconst 3, 1) := by decide +kernel
theorem dX9_bought_61 : decode cX9_bought 61 = .ok (.invokevirtual 60, 3) := by decide +kernel
theorem dX9_bought_64 : decode cX9_bought 64 = .ok (.aload_n 0, 1) := by decide +kernel
theorem dX9_bought_65 : decode cX9_bought 65 = .ok (.iload_n 2, 1) := by decide +kernel
theorem dX9_bought_66 : decode cX9_bought 66 = .ok (.iconst 3, 1) := by decide +kernel
theorem dX9_bought_67 : decode cX9_bought 67 = .ok (.invokevirtual 60, 3) := by decide +kernel
theorem dX9_bought_70 : decode cX9_bought 70 = .ok (.if_icmp .ge 7, 3) := by decide +kernel
theorem dX9_bought_73 : decode cX9_bought 73 = .ok (.iload_n 3, 1) := by decide +kernel
theorem dX9_bought_74 : decode cX9_bought 74 = .ok (.goto 4, 3) := by decide +kernel
theorem dX9_bought_77 : decode cX9_bought 77 = .ok (.iload_n 2, 1) := by decide +kernel
theorem dX9_bought_78 : decode cX9_bought 78 = .ok (.istore_n 2, 1) := by decide +kernel
theorem dX9_bought_79 : decode cX9_bought 79 = .ok (.iinc 3 1, 3) := by decide +kernel
theorem dX9_bought_82 : decode cX9_bought 82 = .ok (.goto (-78), 3) := by decide +kernel
theorem dX9_bought_85 : decode cX9_bought 85 = .ok (.iload_n 2, 1) := by decide +kernel
theorem dX9_bought_86 : decode cX9_bought 86 = .ok (.ireturn, 1) := by decide +kernel
theorem dX9_buys_0 : decode cX9_buys 0 = .ok (.iconst 0, 1) := by decide +kernel
theorem dX9_buys_1 : decode cX9_buys 1 = .ok (.istore_n 2, 1) := by decide +kernel
theorem dX9_buys_2 : decode cX9_buys 2 = .ok (.iload_n 2, 1) := by decide +kernel
theorem dX9_buys_3 : decode cX9_buys 3 = .ok (.iload_n 1, 1) := by decide +kernel
theorem dX9_buys_4 : decode cX9_buys 4 = .ok (.if_icmp .ge 106, 3) := by decide +kernel
theorem dX9_buys_7 : decode cX9_buys 7 = .ok (.aload_n 0, 1) := by decide +kernel
theorem dX9_buys_8 : decode cX9_buys 8 = .ok (.iconst 1, 1) := by decide +kernel
theorem dX9_buys_9 : decode cX9_buys 9 = .ok (.invokevirtual 154, 3) := by decide +kernel
theorem dX9_buys_12 : decode cX9_buys 12 = .ok (.istore_n 3, 1) := by decide +kernel
theorem dX9_buys_13 : decode cX9_buys 13 = .ok (.iload_n 3, 1) := by decide +kernel
theorem dX9_buys_14 : decode cX9_buys 14 = .ok (.ifCond .ge 11, 3) := by decide +kernel
theorem dX9_buys_17 : decode cX9_buys 17 = .ok (.aload_n 0, 1) := by decide +kernel
theorem dX9_buys_18 : decode cX9_buys 18 = .ok (.iconst 2, 1) := by decide +kernel
theorem dX9_buys_19 : decode cX9_buys 19 = .ok (.invokevirtual 154, 3) := by decide +kernel
theorem dX9_buys_22 : decode cX9_buys 22 = .ok (.goto 4, 3) := by decide +kernel
theorem dX9_buys_25 : decode cX9_buys 25 = .ok (.iload_n 3, 1) := by decide +kernel
theorem dX9_buys_26 : decode cX9_buys 26 = .ok (.istore 4, 2) := by decide +kernel
theorem dX9_buys_28 : decode cX9_buys 28 = .ok (.iload 4, 2) := by decide +kernel
theorem dX9_buys_30 : decode cX9_buys 30 = .ok (.ifCond .ge 17, 3) := by decide +kernel
theorem dX9_buys_33 : decode cX9_buys 33 = .ok (.aload_n 0, 1) := by decide +kernel
theorem dX9_buys_34 : decode cX9_buys 34 = .ok (.getfield 7, 3) := by decide +kernel
theorem dX9_buys_37 : decode cX9_buys 37 = .ok (.bipush 12, 2) := by decide +kernel
theorem dX9_buys_39 : decode cX9_buys 39 = .ok (.dup2, 1) := by decide +kernel
theorem dX9_buys_40 : decode cX9_buys 40 = .ok (.iaload, 1) := by decide +kernel
theorem dX9_buys_41 : decode cX9_buys 41 = .ok (.iload_n 1, 1) := by decide +kernel
theorem dX9_buys_42 : decode cX9_buys 42 = .ok (.iload_n 2, 1) := by decide +kernel
theorem dX9_buys_43 : decode cX9_buys 43 = .ok (.isub, 1) := by decide +kernel
theorem dX9_buys_44 : decode cX9_buys 44 = .ok (.iadd, 1) := by decide +kernel
theorem dX9_buys_45 : decode cX9_buys 45 = .ok (.iastore, 1) := by decide +kernel
theorem dX9_buys_46 : decode cX9_buys 46 = .ok (.return_, 1) := by decide +kernel
theorem dX9_buys_47 : decode cX9_buys 47 = .ok (.aload_n 0, 1) := by decide +kernel
theorem dX9_buys_48 : decode cX9_buys 48 = .ok (.getfield 7, 3) := by decide +kernel
theorem dX9_buys_51 : decode cX9_buys 51 = .ok (.bipush 7, 2) := by decide +kernel
theorem dX9_buys_53 : decode cX9_buys 53 = .ok (.dup2, 1) := by decide +kernel
theorem dX9_buys_54 : decode cX9_buys 54 = .ok (.iaload, 1) := by decide +kernel
theorem dX9_buys_55 : decode cX9_buys 55 = .ok (.iload_n 3, 1) := by decide +kernel
theorem dX9_buys_56 : decode cX9_buys 56 = .ok (.ifCond .ge 14, 3) := by decide +kernel
theorem dX9_buys_59 : decode cX9_buys 59 = .ok (.aload_n 0, 1) := by decide +kernel
theorem dX9_buys_60 : decode cX9_buys 60 = .ok (.iload 4, 2) := by decide +kernel
theorem dX9_buys_62 : decode cX9_buys 62 = .ok (.invokevirtual 75, 3) := by decide +kernel
theorem dX9_buys_65 : decode cX9_buys 65 = .ok (.iconst 2, 1) := by decide +kernel
theorem dX9_buys_66 : decode cX9_buys 66 = .ok (.idiv, 1) := by decide +kernel
theorem dX9_buys_67 : decode cX9_buys 67 = .ok (.goto 9, 3) := by decide +kernel
theorem dX9_buys_70 : decode cX9_buys 70 = .ok (.aload_n 0, 1) := by decide +kernel
theorem dX9_buys_71 : decode cX9_buys 71 = .ok (.iload 4, 2) := by decide +kernel
theorem dX9_buys_73 : decode cX9_buys 73 = .ok (.invokevirtual 75, 3) := by decide +kernel
theorem dX9_buys_76 : decode cX9_buys 76 = .ok (.iadd, 1) := by decide +kernel
theorem dX9_buys_77 : decode cX9_buys 77 = .ok (.iastore, 1) := by decide +kernel
theorem dX9_buys_78 : decode cX9_buys 78 = .ok (.aload_n 0, 1) := by decide +kernel
theorem dX9_buys_79 : decode cX9_buys 79 = .ok (.getfield 7, 3) := by decide +kernel
theorem dX9_buys_82 : decode cX9_buys 82 = .ok (.iload 4, 2) := by decide +kernel
theorem dX9_buys_84 : decode cX9_buys 84 = .ok (.iconst 1, 1) := by decide +kernel
theorem dX9_buys_85 : decode cX9_buys 85 = .ok (.invokestatic 45, 3) := by decide +kernel
theorem dX9_buys_88 : decode cX9_buys 88 = .ok (.dup2, 1) := by decide +kernel
theorem dX9_buys_89 : decode cX9_buys 89 = .ok (.iaload, 1) := by decide +kernel
theorem dX9_buys_90 : decode cX9_buys 90 = .ok (.iconst 1, 1) := by decide +kernel
theorem dX9_buys_91 : decode cX9_buys 91 = .ok (.isub, 1) := by decide +kernel
theorem dX9_buys_92 : decode cX9_buys 92 = .ok (.iastore, 1) := by decide +kernel
theorem dX9_buys_93 : decode cX9_buys 93 = .ok (.aload_n 0, 1) := by decide +kernel
theorem dX9_buys_94 : decode cX9_buys 94 = .ok (.getfield 7, 3) := by decide +kernel
theorem dX9_buys_97 : decode cX9_buys 97 = .ok (.bipush 10, 2) := by decide +kernel
theorem dX9_buys_99 : decode cX9_buys 99 = .ok (.dup2, 1) := by decide +kernel
theorem dX9_buys_100 : decode cX9_buys 100 = .ok (.iaload, 1) := by decide +kernel
theorem dX9_buys_101 : decode cX9_buys 101 = .ok (.iconst 1, 1) := by decide +kernel
theorem dX9_buys_102 : decode cX9_buys 102 = .ok (.iadd, 1) := by decide +kernel
theorem dX9_buys_103 : decode cX9_buys 103 = .ok (.iastore, 1) := by decide +kernel
theorem dX9_buys_104 : decode cX9_buys 104 = .ok (.iinc 2 1, 3) := by decide +kernel
theorem dX9_buys_107 : decode cX9_buys 107 = .ok (.goto (-105), 3) := by decide +kernel
theorem dX9_buys_110 : decode cX9_buys 110 = .ok (.return_, 1) := by decide +kernel
theorem dX9_minute_0 : decode cX9_minute 0 = .ok (.aload_n 0, 1) := by decide +kernel
theorem dX9_minute_1 : decode cX9_minute 1 = .ok (.invokevirtual 157, 3) := by decide +kernel
theorem dX9_minute_4 : decode cX9_minute 4 = .ok (.aload_n 0, 1) := by decide +kernel
theorem dX9_minute_5 : decode cX9_minute 5 = .ok (.invokevirtual 160, 3) := by decide +kernel
theorem dX9_minute_8 : decode cX9_minute 8 = .ok (.aload_n 0, 1) := by decide +kernel
theorem dX9_minute_9 : decode cX9_minute 9 = .ok (.getfield 7, 3) := by decide +kernel
theorem dX9_minute_12 : decode cX9_minute 12 = .ok (.bipush 9, 2) := by decide +kernel
theorem dX9_minute_14 : decode cX9_minute 14 = .ok (.iaload, 1) := by decide +kernel
theorem dX9_minute_15 : decode cX9_minute 15 = .ok (.ifCond .ne 64, 3) := by decide +kernel
theorem dX9_minute_18 : decode cX9_minute 18 = .ok (.iconst 0, 1) := by decide +kernel
theorem dX9_minute_19 : decode cX9_minute 19 = .ok (.istore_n 1, 1) := by decide +kernel
theorem dX9_minute_20 : decode cX9_minute 20 = .ok (.iload_n 1, 1) := by decide +kernel
theorem dX9_minute_21 : decode cX9_minute 21 = .ok (.aload_n 0, 1) := by decide +kernel
theorem dX9_minute_22 : decode cX9_minute 22 = .ok (.getfield 7, 3) := by decide +kernel
theorem dX9_minute_25 : decode cX9_minute 25 = .ok (.iconst 2, 1) := by decide +kernel
theorem dX9_minute_26 : decode cX9_minute 26 = .ok (.iaload, 1) := by decide +kernel
theorem dX9_minute_27 : decode cX9_minute 27 = .ok (.if_icmp .ge 49, 3) := by decide +kernel
theorem dX9_minute_30 : decode cX9_minute 30 = .ok (.aload_n 0, 1) := by decide +kernel
theorem dX9_minute_31 : decode cX9_minute 31 = .ok (.iload_n 1, 1) := by decide +kernel
theorem dX9_minute_32 : decode cX9_minute 32 = .ok (.iconst 0, 1) := by decide +kernel
theorem dX9_minute_33 : decode cX9_minute 33 = .ok (.invokevirtual 145, 3) := by decide +kernel
theorem dX9_minute_36 : decode cX9_minute 36 = .ok (.aload_n 0, 1) := by decide +kernel
theorem dX9_minute_37 : decode cX9_minute 37 = .ok (.getfield 7, 3) := by decide +kernel
theorem dX9_minute_40 : decode cX9_minute 40 = .ok (.bipush 8, 2) := by decide +kernel
theorem dX9_minute_42 : decode cX9_minute 42 = .ok (.iaload, 1) := by decide +kernel
theorem dX9_minute_43 : decode cX9_minute 43 = .ok (.if_icmp .ne 27, 3) := by decide +kernel
theorem dX9_minute_46 : decode cX9_minute 46 = .ok (.aload_n 0, 1) := by decide +kernel
theorem dX9_minute_47 : decode cX9_minute 47 = .ok (.iload_n 1, 1) := by decide +kernel
theorem dX9_minute_48 : decode cX9_minute 48 = .ok (.iconst 1, 1) := by decide +kernel
theorem dX9_minute_49 : decode cX9_minute 49 = .ok (.invokevirtual 145, 3) := by decide +kernel
theorem dX9_minute_52 : decode cX9_minute 52 = .ok (.aload_n 0, 1) := by decide +kernel
theorem dX9_minute_53 : decode cX9_minute 53 = .ok (.getfield 7, 3) := by decide +kernel
theorem dX9_minute_56 : decode cX9_minute 56 = .ok (.iconst 0, 1) := by decide +kernel
theorem dX9_minute_57 : decode cX9_minute 57 = .ok (.iaload, 1) := by decide +kernel
theorem dX9_minute_58 : decode cX9_minute 58 = .ok (.if_icmp .ne 12, 3) := by decide +kernel
theorem dX9_minute_61 : decode cX9_minute 61 = .ok (.aload_n 0, 1) := by decide +kernel
theorem dX9_minute_62 : decode cX9_minute 62 = .ok (.aload_n 0, 1) := by decide +kernel
theorem dX9_minute_63 : decode cX9_minute 63 = .ok (.iload_n 1, 1) := by decide +kernel
theorem dX9_minute_64 : decode cX9_minute 64 = .ok (.invokevirtual 151, 3) := by decide +kernel
theorem dX9_minute_67 : decode cX9_minute 67 = .ok (.invokevirtual 163, 3) := by decide +kernel
theorem dX9_minute_70 : decode cX9_minute 70 = .ok (.iinc 1 1, 3) := by decide +kernel
theorem dX9_minute_73 : decode cX9_minute 73 = .ok (.goto (-53), 3) := by decide +kernel
theorem dX9_minute_76 : decode cX9_minute 76 = .ok (.goto 14, 3) := by decide +kernel
theorem dX9_minute_79 : decode cX9_minute 79 = .ok (.aload_n 0, 1) := by decide +kernel
theorem dX9_minute_80 : decode cX9_minute 80 = .ok (.getfield 7, 3) := by decide +kernel
theorem dX9_minute_83 : decode cX9_minute 83 = .ok (.bipush 9, 2) := by decide +kernel
theorem dX9_minute_85 : decode cX9_minute 85 = .ok (.dup2, 1) := by decide +kernel
theorem dX9_minute_86 : decode cX9_minute 86 = .ok (.iaload, 1) := by decide +kernel
theorem dX9_minute_87 : decode cX9_minute 87 = .ok (.iconst 1, 1) := by decide +kernel
theorem dX9_minute_88 : decode cX9_minute 88 = .ok (.isub, 1) := by decide +kernel
theorem dX9_minute_89 : decode cX9_minute 89 = .ok (.iastore, 1) := by decide +kernel
theorem dX9_minute_90 : decode cX9_minute 90 = .ok (.aload_n 0, 1) := by decide +kernel
theorem dX9_minute_91 : decode cX9_minute 91 = .ok (.getfield 7, 3) := by decide +kernel
theorem dX9_minute_94 : decode cX9_minute 94 = .ok (.iconst 0, 1) := by decide +kernel
theorem dX9_minute_95 : decode cX9_minute 95 = .ok (.dup2, 1) := by decide +kernel
theorem dX9_minute_96 : decode cX9_minute 96 = .ok (.iaload, 1) := by decide +kernel
theorem dX9_minute_97 : decode cX9_minute 97 = .ok (.iconst 1, 1) := by decide +kernel
theorem dX9_minute_98 : decode cX9_minute 98 = .ok (.iadd, 1) := by decide +kernel
theorem dX9_minute_99 : decode cX9_minute 99 = .ok (.iastore, 1) := by decide +kernel
theorem dX9_minute_100 : decode cX9_minute 100 = .ok (.return_, 1) := by decide +kernel
theorem dX9_minutesGo_0 : decode cX9_minutesGo 0 = .ok (.iconst 0, 1) := by decide +kernel
theorem dX9_minutesGo_1 : decode cX9_minutesGo 1 = .ok (.istore_n 2, 1) := by decide +kernel
theorem dX9_minutesGo_2 : decode cX9_minutesGo 2 = .ok (.iload_n 2, 1) := by decide +kernel
theorem dX9_minutesGo_3 : decode cX9_minutesGo 3 = .ok (.iload_n 1, 1) := by decide +kernel
theorem dX9_minutesGo_4 : decode cX9_minutesGo 4 = .ok (.if_icmp .ge 13, 3) := by decide +kernel
theorem dX9_minutesGo_7 : decode cX9_minutesGo 7 = .ok (.aload_n 0, 1) := by decide +kernel
theorem dX9_minutesGo_8 : decode cX9_minutesGo 8 = .ok (.invokevirtual 166, 3) := by decide +kernel
theorem dX9_minutesGo_11 : decode cX9_minutesGo 11 = .ok (.iinc 2 1, 3) := by decide +kernel
theorem dX9_minutesGo_14 : decode cX9_minutesGo 14 = .ok (.goto (-12), 3) := by decide +kernel
theorem dX9_minutesGo_17 : decode cX9_minutesGo 17 = .ok (.return_, 1) := by decide +kernel
theorem dX9_isTooLate_0 : decode cX9_isTooLate 0 = .ok (.aload_n 0, 1) := by decide +kernel
theorem dX9_isTooLate_1 : decode cX9_isTooLate 1 = .ok (.getfield 7, 3) := by decide +kernel
theorem dX9_isTooLate_4 : decode cX9_isTooLate 4 = .ok (.iconst 0, 1) := by decide +kernel
theorem dX9_isTooLate_5 : decode cX9_isTooLate 5 = .ok (.iaload, 1) := by decide +kernel
theorem dX9_isTooLate_6 : decode cX9_isTooLate 6 = .ok (.iload_n 1, 1) := by decide +kernel
theorem dX9_isTooLate_7 : decode cX9_isTooLate 7 = .ok (.iadd, 1) := by decide +kernel
theorem dX9_isTooLate_8 : decode cX9_isTooLate 8 = .ok (.sipush 999, 3) := by decide +kernel
theorem dX9_isTooLate_11 : decode cX9_isTooLate 11 = .ok (.if_icmp .le 7, 3) := by decide +kernel
theorem dX9_isTooLate_14 : decode cX9_isTooLate 14 = .ok (.iconst 1, 1) := by decide +kernel
theorem dX9_isTooLate_15 : decode cX9_isTooLate 15 = .ok (.goto 4, 3) := by decide +kernel
theorem dX9_isTooLate_18 : decode cX9_isTooLate 18 = .ok (.iconst 0, 1) := by decide +kernel
theorem dX9_isTooLate_19 : decode cX9_isTooLate 19 = .ok (.ireturn, 1) := by decide +kernel
theorem dX9_minutes_0 : decode cX9_minutes 0 = .ok (.iload_n 1, 1) := by decide +kernel
theorem dX9_minutes_1 : decode cX9_minutes 1 = .ok (.i2l, 1) := by decide +kernel
theorem dX9_minutes_2 : decode cX9_minutes 2 = .ok (.lconst 1, 1) := by decide +kernel
theorem dX9_minutes_3 : decode cX9_minutes 3 = .ok (.ldc2_w 169, 3) := by decide +kernel
theorem dX9_minutes_6 : decode cX9_minutes 6 = .ok (.invokestatic 38, 3) := by decide +kernel
theorem dX9_minutes_9 : decode cX9_minutes 9 = .ok (.ifCond .ne 10, 3) := by decide +kernel
theorem dX9_minutes_12 : decode cX9_minutes 12 = .ok (.aload_n 0, 1) := by decide +kernel
theorem dX9_minutes_13 : decode cX9_minutes 13 = .ok (.ldc 37, 2) := by decide +kernel
theorem dX9_minutes_15 : decode cX9_minutes 15 = .ok (.invokevirtual 51, 3) := by decide +kernel
theorem dX9_minutes_18 : decode cX9_minutes 18 = .ok (.ireturn, 1) := by decide +kernel
theorem dX9_minutes_19 : decode cX9_minutes 19 = .ok (.aload_n 0, 1) := by decide +kernel
theorem dX9_minutes_20 : decode cX9_minutes 20 = .ok (.iload_n 1, 1) := by decide +kernel
theorem dX9_minutes_21 : decode cX9_minutes 21 = .ok (.invokevirtual 171, 3) := by decide +kernel
theorem dX9_minutes_24 : decode cX9_minutes 24 = .ok (.ifCond .eq 10, 3) := by decide +kernel
theorem dX9_minutes_27 : decode cX9_minutes 27 = .ok (.aload_n 0, 1) := by decide +kernel
theorem dX9_minutes_28 : decode cX9_minutes 28 = .ok (.ldc 98, 2) := by decide +kernel
theorem dX9_minutes_30 : decode cX9_minutes 30 = .ok (.invokevirtual 51, 3) := by decide +kernel
theorem dX9_minutes_33 : decode cX9_minutes 33 = .ok (.ireturn, 1) := by decide +kernel
theorem dX9_minutes_34 : decode cX9_minutes 34 = .ok (.aload_n 0, 1) := by decide +kernel
theorem dX9_minutes_35 : decode cX9_minutes 35 = .ok (.getfield 7, 3) := by decide +kernel
theorem dX9_minutes_38 : decode cX9_minutes 38 = .ok (.bipush 10, 2) := by decide +kernel
theorem dX9_minutes_40 : decode cX9_minutes 40 = .ok (.iaload, 1) := by decide +kernel
theorem dX9_minutes_41 : decode cX9_minutes 41 = .ok (.istore_n 2, 1) := by decide +kernel
theorem dX9_minutes_42 : decode cX9_minutes 42 = .ok (.aload_n 0, 1) := by decide +kernel
theorem dX9_minutes_43 : decode cX9_minutes 43 = .ok (.iload_n 1, 1) := by decide +kernel
theorem dX9_minutes_44 : decode cX9_minutes 44 = .ok (.invokevirtual 174, 3) := by decide +kernel
theorem dX9_minutes_47 : decode cX9_minutes 47 = .ok (.aload_n 0, 1) := by decide +kernel
theorem dX9_minutes_48 : decode cX9_minutes 48 = .ok (.getfield 7, 3) := by decide +kernel
theorem dX9_minutes_51 : decode cX9_minutes 51 = .ok (.bipush 10, 2) := by decide +kernel
theorem dX9_minutes_53 : decode cX9_minutes 53 = .ok (.iaload, 1) := by decide +kernel
theorem dX9_minutes_54 : decode cX9_minutes 54 = .ok (.iload_n 2, 1) := by decide +kernel
theorem dX9_minutes_55 : decode cX9_minutes 55 = .ok (.isub, 1) := by decide +kernel
theorem dX9_minutes_56 : decode cX9_minutes 56 = .ok (.ireturn, 1) := by decide +kernel
theorem dX9_now_0 : decode cX9_now 0 = .ok (.iload_n 1, 1) := by decide +kernel
theorem dX9_now_1 : decode cX9_now 1 = .ok (.tableswitch 118 0 8 #[51, 58, 66, 73, 81, 89, 97, 105, 113], 51) := by decide +kernel
theorem dX9_now_52 : decode cX9_now 52 = .ok (.aload_n 0, 1) := by decide +kernel
theorem dX9_now_53 : decode cX9_now 53 = .ok (.getfield 7, 3) := by decide +kernel
theorem dX9_now_56 : decode cX9_now 56 = .ok (.iconst 0, 1) := by decide +kernel
theorem dX9_now_57 : decode cX9_now 57 = .ok (.iaload, 1) := by decide +kernel
theorem dX9_now_58 : decode cX9_now 58 = .ok (.ireturn, 1) := by decide +kernel
theorem dX9_now_59 : decode cX9_now 59 = .ok (.aload_n 0, 1) := by decide +kernel
theorem dX9_now_60 : decode cX9_now 60 = .ok (.getfield 7, 3) := by decide +kernel
theorem dX9_now_63 : decode cX9_now 63 = .ok (.bipush 7, 2) := by decide +kernel
theorem dX9_now_65 : decode cX9_now 65 = .ok (.iaload, 1) := by decide +kernel
theorem dX9_now_66 : decode cX9_now 66 = .ok (.ireturn, 1) := by decide +kernel
theorem dX9_now_67 : decode cX9_now 67 = .ok (.aload_n 0, 1) := by decide +kernel
theorem dX9_now_68 : decode cX9_now 68 = .ok (.getfield 7, 3) := by decide +kernel
theorem dX9_now_71 : decode cX9_now 71 = .ok (.iconst 4, 1) := by decide +kernel
theorem dX9_now_72 : decode cX9_now 72 = .ok (.iaload, 1) := by decide +kernel
theorem dX9_now_73 : decode cX9_now 73 = .ok (.ireturn, 1) := by decide +kernel
theorem dX9_now_74 : decode cX9_now 74 = .ok (.aload_n 0, 1) := by decide +kernel
theorem dX9_now_75 : decode cX9_now 75 = .ok (.getfield 7, 3) := by decide +kernel
theorem dX9_now_78 : decode cX9_now 78 = .ok (.bipush 8, 2) := by decide +kernel
theorem dX9_now_80 : decode cX9_now 80 = .ok (.iaload, 1) := by decide +kernel
theorem dX9_now_81 : decode cX9_now 81 = .ok (.ireturn, 1) := by decide +kernel
theorem dX9_now_82 : decode cX9_now 82 = .ok (.aload_n 0, 1) := by decide +kernel
theorem dX9_now_83 : decode cX9_now 83 = .ok (.getfield 7, 3) := by decide +kernel
theorem dX9_now_86 : decode cX9_now 86 = .ok (.bipush 9, 2) := by decide +kernel
theorem dX9_now_88 : decode cX9_now 88 = .ok (.iaload, 1) := by decide +kernel
theorem dX9_now_89 : decode cX9_now 89 = .ok (.ireturn, 1) := by decide +kernel
theorem dX9_now_90 : decode cX9_now 90 = .ok (.aload_n 0, 1) := by decide +kernel
theorem dX9_now_91 : decode cX9_now 91 = .ok (.getfield 7, 3) := by decide +kernel
theorem dX9_now_94 : decode cX9_now 94 = .ok (.bipush 10, 2) := by decide +kernel
theorem dX9_now_96 : decode cX9_now 96 = .ok (.iaload, 1) := by decide +kernel
theorem dX9_now_97 : decode cX9_now 97 = .ok (.ireturn, 1) := by decide +kernel
theorem dX9_now_98 : decode cX9_now 98 = .ok (.aload_n 0, 1) := by decide +kernel
theorem dX9_now_99 : decode cX9_now 99 = .ok (.getfield 7, 3) := by decide +kernel
theorem dX9_now_102 : decode cX9_now 102 = .ok (.bipush 11, 2) := by decide +kernel
theorem dX9_now_104 : decode cX9_now 104 = .ok (.iaload, 1) := by decide +kernel
theorem dX9_now_105 : decode cX9_now 105 = .ok (.ireturn, 1) := by decide +kernel
theorem dX9_now_106 : decode cX9_now 106 = .ok (.aload_n 0, 1) := by decide +kernel
theorem dX9_now_107 : decode cX9_now 107 = .ok (.getfield 7, 3) := by decide +kernel
theorem dX9_now_110 : decode cX9_now 110 = .ok (.bipush 12, 2) := by decide +kernel
theorem dX9_now_112 : decode cX9_now 112 = .ok (.iaload, 1) := by decide +kernel
theorem dX9_now_113 : decode cX9_now 113 = .ok (.ireturn, 1) := by decide +kernel
theorem dX9_now_114 : decode cX9_now 114 = .ok (.aload_n 0, 1) := by decide +kernel
theorem dX9_now_115 : decode cX9_now 115 = .ok (.invokevirtual 120, 3) := by decide +kernel
theorem dX9_now_118 : decode cX9_now 118 = .ok (.ireturn, 1) := by decide +kernel
theorem dX9_now_119 : decode cX9_now 119 = .ok (.aload_n 0, 1) := by decide +kernel
theorem dX9_now_120 : decode cX9_now 120 = .ok (.ldc 37, 2) := by decide +kernel
theorem dX9_now_122 : decode cX9_now 122 = .ok (.invokevirtual 51, 3) := by decide +kernel
theorem dX9_now_125 : decode cX9_now 125 = .ok (.ireturn, 1) := by decide +kernel
theorem dX9_at_0 : decode cX9_at 0 = .ok (.iload_n 1, 1) := by decide +kernel
theorem dX9_at_1 : decode cX9_at 1 = .ok (.i2l, 1) := by decide +kernel
theorem dX9_at_2 : decode cX9_at 2 = .ok (.lconst 0, 1) := by decide +kernel
theorem dX9_at_3 : decode cX9_at 3 = .ok (.ldc2_w 96, 3) := by decide +kernel
theorem dX9_at_6 : decode cX9_at 6 = .ok (.invokestatic 38, 3) := by decide +kernel
theorem dX9_at_9 : decode cX9_at 9 = .ok (.ifCond .eq 11, 3) := by decide +kernel
theorem dX9_at_12 : decode cX9_at 12 = .ok (.aload_n 0, 1) := by decide +kernel
theorem dX9_at_13 : decode cX9_at 13 = .ok (.iload_n 1, 1) := by decide +kernel
theorem dX9_at_14 : decode cX9_at 14 = .ok (.invokevirtual 86, 3) := by decide +kernel
theorem dX9_at_17 : decode cX9_at 17 = .ok (.goto 9, 3) := by decide +kernel
theorem dX9_at_20 : decode cX9_at 20 = .ok (.aload_n 0, 1) := by decide +kernel
theorem dX9_at_21 : decode cX9_at 21 = .ok (.ldc 37, 2) := by decide +kernel
theorem dX9_at_23 : decode cX9_at 23 = .ok (.invokevirtual 51, 3) := by decide +kernel
theorem dX9_at_26 : decode cX9_at 26 = .ok (.ireturn, 1) := by decide +kernel
theorem dX9_doneSet_0 : decode cX9_doneSet 0 = .ok (.iconst 0, 1) := by decide +kernel
theorem dX9_doneSet_1 : decode cX9_doneSet 1 = .ok (.istore_n 1, 1) := by decide +kernel
theorem dX9_doneSet_2 : decode cX9_doneSet 2 = .ok (.iconst 0, 1) := by decide +kernel
theorem dX9_doneSet_3 : decode cX9_doneSet 3 = .ok (.istore_n 2, 1) := by decide +kernel
theorem dX9_doneSet_4 : decode cX9_doneSet 4 = .ok (.iload_n 2, 1) := by decide +kernel
theorem dX9_doneSet_5 : decode cX9_doneSet 5 = .ok (.aload_n 0, 1) := by decide +kernel
theorem dX9_doneSet_6 : decode cX9_doneSet 6 = .ok (.getfield 7, 3) := by decide +kernel
theorem dX9_doneSet_9 : decode cX9_doneSet 9 = .ok (.iconst 1, 1) := by decide +kernel
theorem dX9_doneSet_10 : decode cX9_doneSet 10 = .ok (.iaload, 1) := by decide +kernel
theorem dX9_doneSet_11 : decode cX9_doneSet 11 = .ok (.if_icmp .ge 65, 3) := by decide +kernel
theorem dX9_doneSet_14 : decode cX9_doneSet 14 = .ok (.aload_n 0, 1) := by decide +kernel
theorem dX9_doneSet_15 : decode cX9_doneSet 15 = .ok (.iload_n 2, 1) := by decide +kernel
theorem dX9_doneSet_16 : decode cX9_doneSet 16 = .ok (.iconst 4, 1) := by decide +kernel
theorem dX9_doneSet_17 : decode cX9_doneSet 17 = .ok (.invokevirtual 60, 3) := by decide +kernel
theorem dX9_doneSet_20 : decode cX9_doneSet 20 = .ok (.iconst 1, 1) := by decide +kernel
theorem dX9_doneSet_21 : decode cX9_doneSet 21 = .ok (.if_icmp .eq 13, 3) := by decide +kernel
theorem dX9_doneSet_24 : decode cX9_doneSet 24 = .ok (.aload_n 0, 1) := by decide +kernel
theorem dX9_doneSet_25 : decode cX9_doneSet 25 = .ok (.iload_n 2, 1) := by decide +kernel
theorem dX9_doneSet_26 : decode cX9_doneSet 26 = .ok (.iconst 4, 1) := by decide +kernel
theorem dX9_doneSet_27 : decode cX9_doneSet 27 = .ok (.invokevirtual 60, 3) := by decide +kernel
theorem dX9_doneSet_30 : decode cX9_doneSet 30 = .ok (.iconst 2, 1) := by decide +kernel
theorem dX9_doneSet_31 : decode cX9_doneSet 31 = .ok (.if_icmp .ne 23, 3) := by decide +kernel
theorem dX9_doneSet_34 : decode cX9_doneSet 34 = .ok (.aload_n 0, 1) := by decide +kernel
theorem dX9_doneSet_35 : decode cX9_doneSet 35 = .ok (.iload_n 2, 1) := by decide +kernel
theorem dX9_doneSet_36 : decode cX9_doneSet 36 = .ok (.invokevirtual 114, 3) := by decide +kernel
theorem dX9_doneSet_39 : decode cX9_doneSet 39 = .ok (.ifCond .eq 15, 3) := by decide +kernel
theorem dX9_doneSet_42 : decode cX9_doneSet 42 = .ok (.aload_n 0, 1) := by decide +kernel
theorem dX9_doneSet_43 : decode cX9_doneSet 43 = .ok (.iload_n 2, 1) := by decide +kernel
theorem dX9_doneSet_44 : decode cX9_doneSet 44 = .ok (.invokevirtual 111, 3) := by decide +kernel
theorem dX9_doneSet_47 : decode cX9_doneSet 47 = .ok (.ifCond .ne 7, 3) := by decide +kernel
theorem dX9_doneSet_50 : decode cX9_doneSet 50 = .ok (.iconst 1, 1) := by decide +kernel
theorem dX9_doneSet_51 : decode cX9_doneSet 51 = .ok (.goto 4, 3) := by decide +kernel
theorem dX9_doneSet_54 : decode cX9_doneSet 54 = .ok (.iconst 0, 1) := by decide +kernel
theorem dX9_doneSet_55 : decode cX9_doneSet 55 = .ok (.istore_n 3, 1) := by decide +kernel
theorem dX9_doneSet_56 : decode cX9_doneSet 56 = .ok (.iload_n 1, 1) := by decide +kernel
theorem dX9_doneSet_57 : decode cX9_doneSet 57 = .ok (.iload_n 3, 1) := by decide +kernel
theorem dX9_doneSet_58 : decode cX9_doneSet 58 = .ok (.ifCond .eq 9, 3) := by decide +kernel
theorem dX9_doneSet_61 : decode cX9_doneSet 61 = .ok (.iconst 1, 1) := by decide +kernel
theorem dX9_doneSet_62 : decode cX9_doneSet 62 = .ok (.iload_n 2, 1) := by decide +kernel
theorem dX9_doneSet_63 : decode cX9_doneSet 63 = .ok (.ishl, 1) := by decide +kernel
theorem dX9_doneSet_64 : decode cX9_doneSet 64 = .ok (.goto 4, 3) := by decide +kernel
theorem dX9_doneSet_67 : decode cX9_doneSet 67 = .ok (.iconst 0, 1) := by decide +kernel
theorem dX9_doneSet_68 : decode cX9_doneSet 68 = .ok (.ior, 1) := by decide +kernel
theorem dX9_doneSet_69 : decode cX9_doneSet 69 = .ok (.istore_n 1, 1) := by decide +kernel
theorem dX9_doneSet_70 : decode cX9_doneSet 70 = .ok (.iinc 2 1, 3) := by decide +kernel
theorem dX9_doneSet_73 : decode cX9_doneSet 73 = .ok (.goto (-69), 3) := by decide +kernel
theorem dX9_doneSet_76 : decode cX9_doneSet 76 = .ok (.iload_n 1, 1) := by decide +kernel
theorem dX9_doneSet_77 : decode cX9_doneSet 77 = .ok (.ireturn, 1) := by decide +kernel
theorem dX9_bagsLeft_0 : decode cX9_bagsLeft 0 = .ok (.iconst 0, 1) := by decide +kernel
theorem dX9_bagsLeft_1 : decode cX9_bagsLeft 1 = .ok (.istore_n 1, 1) := by decide +kernel
theorem dX9_bagsLeft_2 : decode cX9_bagsLeft 2 = .ok (.iconst 0, 1) := by decide +kernel
theorem dX9_bagsLeft_3 : decode cX9_bagsLeft 3 = .ok (.istore_n 2, 1) := by decide +kernel
theorem dX9_bagsLeft_4 : decode cX9_bagsLeft 4 = .ok (.iload_n 2, 1) := by decide +kernel
theorem dX9_bagsLeft_5 : decode cX9_bagsLeft 5 = .ok (.aload_n 0, 1) := by decide +kernel
theorem dX9_bagsLeft_6 : decode cX9_bagsLeft 6 = .ok (.getfield 7, 3) := by decide +kernel
theorem dX9_bagsLeft_9 : decode cX9_bagsLeft 9 = .ok (.iconst 1, 1) := by decide +kernel
theorem dX9_bagsLeft_10 : decode cX9_bagsLeft 10 = .ok (.iaload, 1) := by decide +kernel
theorem dX9_bagsLeft_11 : decode cX9_bagsLeft 11 = .ok (.if_icmp .ge 32, 3) := by decide +kernel
theorem dX9_bagsLeft_14 : decode cX9_bagsLeft 14 = .ok (.iload_n 1, 1) := by decide +kernel
theorem dX9_bagsLeft_15 : decode cX9_bagsLeft 15 = .ok (.aload_n 0, 1) := by decide +kernel
theorem dX9_bagsLeft_16 : decode cX9_bagsLeft 16 = .ok (.iload_n 2, 1) := by decide +kernel
theorem dX9_bagsLeft_17 : decode cX9_bagsLeft 17 = .ok (.iconst 4, 1) := by decide +kernel
theorem dX9_bagsLeft_18 : decode cX9_bagsLeft 18 = .ok (.invokevirtual 60, 3) := by decide +kernel
theorem dX9_bagsLeft_21 : decode cX9_bagsLeft 21 = .ok (.iconst 4, 1) := by decide +kernel
theorem dX9_bagsLeft_22 : decode cX9_bagsLeft 22 = .ok (.if_icmp .ne 7, 3) := by decide +kernel
theorem dX9_bagsLeft_25 : decode cX9_bagsLeft 25 = .ok (.iconst 0, 1) := by decide +kernel
theorem dX9_bagsLeft_26 : decode cX9_bagsLeft 26 = .ok (.goto 9, 3) := by decide +kernel
theorem dX9_bagsLeft_29 : decode cX9_bagsLeft 29 = .ok (.aload_n 0, 1) := by decide +kernel
theorem dX9_bagsLeft_30 : decode cX9_bagsLeft 30 = .ok (.iload_n 2, 1) := by decide +kernel
theorem dX9_bagsLeft_31 : decode cX9_bagsLeft 31 = .ok (.iconst 1, 1) := by decide +kernel
theorem dX9_bagsLeft_32 : decode cX9_bagsLeft 32 = .ok (.invokevirtual 60, 3) := by decide +kernel
theorem dX9_bagsLeft_35 : decode cX9_bagsLeft 35 = .ok (.iadd, 1) := by decide +kernel
theorem dX9_bagsLeft_36 : decode cX9_bagsLeft 36 = .ok (.istore_n 1, 1) := by decide +kernel
theorem dX9_bagsLeft_37 : decode cX9_bagsLeft 37 = .ok (.iinc 2 1, 3) := by decide +kernel
theorem dX9_bagsLeft_40 : decode cX9_bagsLeft 40 = .ok (.goto (-36), 3) := by decide +kernel
theorem dX9_bagsLeft_43 : decode cX9_bagsLeft 43 = .ok (.iload_n 1, 1) := by decide +kernel
theorem dX9_bagsLeft_44 : decode cX9_bagsLeft 44 = .ok (.ireturn, 1) := by decide +kernel
theorem dX9_ahead_0 : decode cX9_ahead 0 = .ok (.iload_n 1, 1) := by decide +kernel
theorem dX9_ahead_1 : decode cX9_ahead 1 = .ok (.i2l, 1) := by decide +kernel
theorem dX9_ahead_2 : decode cX9_ahead 2 = .ok (.lconst 0, 1) := by decide +kernel
theorem dX9_ahead_3 : decode cX9_ahead 3 = .ok (.ldc2_w 177, 3) := by decide +kernel
theorem dX9_ahead_6 : decode cX9_ahead 6 = .ok (.invokestatic 38, 3) := by decide +kernel
theorem dX9_ahead_9 : decode cX9_ahead 9 = .ok (.ifCond .eq 21, 3) := by decide +kernel
theorem dX9_ahead_12 : decode cX9_ahead 12 = .ok (.iload_n 2, 1) := by decide +kernel
theorem dX9_ahead_13 : decode cX9_ahead 13 = .ok (.i2l, 1) := by decide +kernel
theorem dX9_ahead_14 : decode cX9_ahead 14 = .ok (.lconst 0, 1) := by decide +kernel
theorem dX9_ahead_15 : decode cX9_ahead 15 = .ok (.iconst 5, 1) := by decide +kernel
theorem dX9_ahead_16 : decode cX9_ahead 16 = .ok (.aload_n 0, 1) := by decide +kernel
theorem dX9_ahead_17 : decode cX9_ahead 17 = .ok (.getfield 7, 3) := by decide +kernel
theorem dX9_ahead_20 : decode cX9_ahead 20 = .ok (.iconst 1, 1) := by decide +kernel
theorem dX9_ahead_21 : decode cX9_ahead 21 = .ok (.iaload, 1) := by decide +kernel
theorem dX9_ahead_22 : decode cX9_ahead 22 = .ok (.iadd, 1) := by decide +kernel
theorem dX9_ahead_23 : decode cX9_ahead 23 = .ok (.i2l, 1) := by decide +kernel
theorem dX9_ahead_24 : decode cX9_ahead 24 = .ok (.invokestatic 38, 3) := by decide +kernel
theorem dX9_ahead_27 : decode cX9_ahead 27 = .ok (.ifCond .ne 10, 3) := by decide +kernel
theorem dX9_ahead_30 : decode cX9_ahead 30 = .ok (.aload_n 0, 1) := by decide +kernel
theorem dX9_ahead_31 : decode cX9_ahead 31 = .ok (.ldc 37, 2) := by decide +kernel
theorem dX9_ahead_33 : decode cX9_ahead 33 = .ok (.invokevirtual 51, 3) := by decide +kernel
theorem dX9_ahead_36 : decode cX9_ahead 36 = .ok (.ireturn, 1) := by decide +kernel
theorem dX9_ahead_37 : decode cX9_ahead 37 = .ok (.aload_n 0, 1) := by decide +kernel
theorem dX9_ahead_38 : decode cX9_ahead 38 = .ok (.iload_n 1, 1) := by decide +kernel
theorem dX9_ahead_39 : decode cX9_ahead 39 = .ok (.invokevirtual 171, 3) := by decide +kernel
theorem dX9_ahead_42 : decode cX9_ahead 42 = .ok (.ifCond .eq 10, 3) := by decide +kernel
theorem dX9_ahead_45 : decode cX9_ahead 45 = .ok (.aload_n 0, 1) := by decide +kernel
theorem dX9_ahead_46 : decode cX9_ahead 46 = .ok (.ldc 98, 2) := by decide +kernel
theorem dX9_ahead_48 : decode cX9_ahead 48 = .ok (.invokevirtual 51, 3) := by decide +kernel
theorem dX9_ahead_51 : decode cX9_ahead 51 = .ok (.ireturn, 1) := by decide +kernel
theorem dX9_ahead_52 : decode cX9_ahead 52 = .ok (.aload_n 0, 1) := by decide +kernel
theorem dX9_ahead_53 : decode cX9_ahead 53 = .ok (.invokevirtual 179, 3) := by decide +kernel
theorem dX9_ahead_56 : decode cX9_ahead 56 = .ok (.aload_n 0, 1) := by decide +kernel
theorem dX9_ahead_57 : decode cX9_ahead 57 = .ok (.iload_n 1, 1) := by decide +kernel
theorem dX9_ahead_58 : decode cX9_ahead 58 = .ok (.invokevirtual 174, 3) := by decide +kernel
theorem dX9_ahead_61 : decode cX9_ahead 61 = .ok (.iconst 0, 1) := by decide +kernel
theorem dX9_ahead_62 : decode cX9_ahead 62 = .ok (.istore_n 3, 1) := by decide +kernel
theorem dX9_ahead_63 : decode cX9_ahead 63 = .ok (.iload_n 2, 1) := by decide +kernel
theorem dX9_ahead_64 : decode cX9_ahead 64 = .ok (.tableswitch 123 0 5 #[40, 59, 78, 97, 107, 115], 40) := by decide +kernel
theorem dX9_ahead_104 : decode cX9_ahead 104 = .ok (.aload_n 0, 1) := by decide +kernel
theorem dX9_ahead_105 : decode cX9_ahead 105 = .ok (.getfield 7, 3) := by decide +kernel
theorem dX9_ahead_108 : decode cX9_ahead 108 = .ok (.bipush 7, 2) := by decide +kernel
theorem dX9_ahead_110 : decode cX9_ahead 110 = .ok (.iaload, 1) := by decide +kernel
theorem dX9_ahead_111 : decode cX9_ahead 111 = .ok (.aload_n 0, 1) := by decide +kernel
theorem dX9_ahead_112 : decode cX9_ahead 112 = .ok (.getfield 16, 3) := by decide +kernel
theorem dX9_ahead_115 : decode cX9_ahead 115 = .ok (.bipush 7, 2) := by decide +kernel
theorem dX9_ahead_117 : decode cX9_ahead 117 = .ok (.iaload, 1) := by decide +kernel
theorem dX9_ahead_118 : decode cX9_ahead 118 = .ok (.isub, 1) := by decide +kernel
theorem dX9_ahead_119 : decode cX9_ahead 119 = .ok (.istore_n 3, 1) := by decide +kernel
theorem dX9_ahead_120 : decode cX9_ahead 120 = .ok (.goto 77, 3) := by decide +kernel
theorem dX9_ahead_123 : decode cX9_ahead 123 = .ok (.aload_n 0, 1) := by decide +kernel
theorem dX9_ahead_124 : decode cX9_ahead 124 = .ok (.getfield 7, 3) := by decide +kernel
theorem dX9_ahead_127 : decode cX9_ahead 127 = .ok (.bipush 10, 2) := by decide +kernel
theorem dX9_ahead_129 : decode cX9_ahead 129 = .ok (.iaload, 1) := by decide +kernel
theorem dX9_ahead_130 : decode cX9_ahead 130 = .ok (.aload_n 0, 1) := by decide +kernel
theorem dX9_ahead_131 : decode cX9_ahead 131 = .ok (.getfield 16, 3) := by decide +kernel
theorem dX9_ahead_134 : decode cX9_ahead 134 = .ok (.bipush 10, 2) := by decide +kernel
theorem dX9_ahead_136 : decode cX9_ahead 136 = .ok (.iaload, 1) := by decide +kernel
theorem dX9_ahead_137 : decode cX9_ahead 137 = .ok (.isub, 1) := by decide +kernel
theorem dX9_ahead_138 : decode cX9_ahead 138 = .ok (.istore_n 3, 1) := by decide +kernel
theorem dX9_ahead_139 : decode cX9_ahead 139 = .ok (.goto 58, 3) := by decide +kernel
theorem dX9_ahead_142 : decode cX9_ahead 142 = .ok (.aload_n 0, 1) := by decide +kernel
theorem dX9_ahead_143 : decode cX9_ahead 143 = .ok (.getfield 7, 3) := by decide +kernel
theorem dX9_ahead_146 : decode cX9_ahead 146 = .ok (.bipush 12, 2) := by decide +kernel
theorem dX9_ahead_148 : decode cX9_ahead 148 = .ok (.iaload, 1) := by decide +kernel
theorem dX9_ahead_149 : decode cX9_ahead 149 = .ok (.aload_n 0, 1) := by decide +kernel
theorem dX9_ahead_150 : decode cX9_ahead 150 = .ok (.getfield 16, 3) := by decide +kernel
theorem dX9_ahead_153 : decode cX9_ahead 153 = .ok (.bipush 12, 2) := by decide +kernel
theorem dX9_ahead_155 : decode cX9_ahead 155 = .ok (.iaload, 1) := by decide +kernel
theorem dX9_ahead_156 : decode cX9_ahead 156 = .ok (.isub, 1) := by decide +kernel
theorem dX9_ahead_157 : decode cX9_ahead 157 = .ok (.istore_n 3, 1) := by decide +kernel
theorem dX9_ahead_158 : decode cX9_ahead 158 = .ok (.goto 39, 3) := by decide +kernel
theorem dX9_ahead_161 : decode cX9_ahead 161 = .ok (.aload_n 0, 1) := by decide +kernel
theorem dX9_ahead_162 : decode cX9_ahead 162 = .ok (.getfield 7, 3) := by decide +kernel
theorem dX9_ahead_165 : decode cX9_ahead 165 = .ok (.iconst 4, 1) := by decide +kernel
theorem dX9_ahead_166 : decode cX9_ahead 166 = .ok (.iaload, 1) := by decide +kernel
theorem dX9_ahead_167 : decode cX9_ahead 167 = .ok (.istore_n 3, 1) := by decide +kernel
theorem dX9_ahead_168 : decode cX9_ahead 168 = .ok (.goto 29, 3) := by decide +kernel
theorem dX9_ahead_171 : decode cX9_ahead 171 = .ok (.aload_n 0, 1) := by decide +kernel
theorem dX9_ahead_172 : decode cX9_ahead 172 = .ok (.invokevirtual 182, 3) := by decide +kernel
theorem dX9_ahead_175 : decode cX9_ahead 175 = .ok (.istore_n 3, 1) := by decide +kernel
theorem dX9_ahead_176 : decode cX9_ahead 176 = .ok (.goto 21, 3) := by decide +kernel
theorem dX9_ahead_179 : decode cX9_ahead 179 = .ok (.aload_n 0, 1) := by decide +kernel
theorem dX9_ahead_180 : decode cX9_ahead 180 = .ok (.invokevirtual 185, 3) := by decide +kernel
theorem dX9_ahead_183 : decode cX9_ahead 183 = .ok (.istore_n 3, 1) := by decide +kernel
theorem dX9_ahead_184 : decode cX9_ahead 184 = .ok (.goto 13, 3) := by decide +kernel
theorem dX9_ahead_187 : decode cX9_ahead 187 = .ok (.aload_n 0, 1) := by decide +kernel
theorem dX9_ahead_188 : decode cX9_ahead 188 = .ok (.iload_n 2, 1) := by decide +kernel
theorem dX9_ahead_189 : decode cX9_ahead 189 = .ok (.bipush 6, 2) := by decide +kernel
theorem dX9_ahead_191 : decode cX9_ahead 191 = .ok (.isub, 1) := by decide +kernel
theorem dX9_ahead_192 : decode cX9_ahead 192 = .ok (.iconst 2, 1) := by decide +kernel
theorem dX9_ahead_193 : decode cX9_ahead 193 = .ok (.invokevirtual 60, 3) := by decide +kernel
theorem dX9_ahead_196 : decode cX9_ahead 196 = .ok (.istore_n 3, 1) := by decide +kernel
theorem dX9_ahead_197 : decode cX9_ahead 197 = .ok (.aload_n 0, 1) := by decide +kernel
theorem dX9_ahead_198 : decode cX9_ahead 198 = .ok (.invokevirtual 188, 3) := by decide +kernel
theorem dX9_ahead_201 : decode cX9_ahead 201 = .ok (.iload_n 3, 1) := by decide +kernel
theorem dX9_ahead_202 : decode cX9_ahead 202 = .ok (.ireturn, 1) := by decide +kernel
theorem dX9_doneIn_0 : decode cX9_doneIn 0 = .ok (.iconst 0, 1) := by decide +kernel
theorem dX9_doneIn_1 : decode cX9_doneIn 1 = .ok (.istore_n 3, 1) := by decide +kernel
theorem dX9_doneIn_2 : decode cX9_doneIn 2 = .ok (.iload_n 3, 1) := by decide +kernel
theorem dX9_doneIn_3 : decode cX9_doneIn 3 = .ok (.sipush 201, 3) := by decide +kernel
theorem dX9_doneIn_6 : decode cX9_doneIn 6 = .ok (.if_icmp .ge 56, 3) := by decide +kernel
theorem dX9_doneIn_9 : decode cX9_doneIn 9 = .ok (.iload_n 2, 1) := by decide +kernel
theorem dX9_doneIn_10 : decode cX9_doneIn 10 = .ok (.ifCond .eq 24, 3) := by decide +kernel
theorem dX9_doneIn_13 : decode cX9_doneIn 13 = .ok (.aload_n 0, 1) := by decide +kernel
theorem dX9_doneIn_14 : decode cX9_doneIn 14 = .ok (.iload_n 1, 1) := by decide +kernel
theorem dX9_doneIn_15 : decode cX9_doneIn 15 = .ok (.invokevirtual 111, 3) := by decide +kernel
theorem dX9_doneIn_18 : decode cX9_doneIn 18 = .ok (.ifCond .ne 44, 3) := by decide +kernel
theorem dX9_doneIn_21 : decode cX9_doneIn 21 = .ok (.aload_n 0, 1) := by decide +kernel
theorem dX9_doneIn_22 : decode cX9_doneIn 22 = .ok (.iload_n 1, 1) := by decide +kernel
theorem dX9_doneIn_23 : decode cX9_doneIn 23 = .ok (.iconst 4, 1) := by decide +kernel
theorem dX9_doneIn_24 : decode cX9_doneIn 24 = .ok (.invokevirtual 60, 3) := by decide +kernel
theorem dX9_doneIn_27 : decode cX9_doneIn 27 = .ok (.iconst 4, 1) := by decide +kernel
theorem dX9_doneIn_28 : decode cX9_doneIn 28 = .ok (.if_icmp .ne 24, 3) := by decide +kernel
theorem dX9_doneIn_31 : decode cX9_doneIn 31 = .ok (.goto 31, 3) := by decide +kernel
theorem dX9_doneIn_34 : decode cX9_doneIn 34 = .ok (.aload_n 0, 1) := by decide +kernel
theorem dX9_doneIn_35 : decode cX9_doneIn 35 = .ok (.iload_n 1, 1) := by decide +kernel
theorem dX9_doneIn_36 : decode cX9_doneIn 36 = .ok (.invokevirtual 114, 3) := by decide +kernel
theorem dX9_doneIn_39 : decode cX9_doneIn 39 = .ok (.ifCond .eq 13, 3) := by decide +kernel
theorem dX9_doneIn_42 : decode cX9_doneIn 42 = .ok (.aload_n 0, 1) := by decide +kernel
theorem dX9_doneIn_43 : decode cX9_doneIn 43 = .ok (.iload_n 1, 1) := by decide +kernel
theorem dX9_doneIn_44 : decode cX9_doneIn 44 = .ok (.iconst 4, 1) := by decide +kernel
theorem dX9_doneIn_45 : decode cX9_doneIn 45 = .ok (.invokevirtual 60, 3) := by decide +kernel
theorem dX9_doneIn_48 : decode cX9_doneIn 48 = .ok (.iconst 4, 1) := by decide +kernel
theorem dX9_doneIn_49 : decode cX9_doneIn 49 = .ok (.if_icmp .ne 13, 3) := by decide +kernel
theorem dX9_doneIn_52 : decode cX9_doneIn 52 = .ok (.aload_n 0, 1) := by decide +kernel
theorem dX9_doneIn_53 : decode cX9_doneIn 53 = .ok (.invokevirtual 166, 3) := by decide +kernel
theorem dX9_doneIn_56 : decode cX9_doneIn 56 = .ok (.iinc 3 1, 3) := by decide +kernel
theorem dX9_doneIn_59 : decode cX9_doneIn 59 = .ok (.goto (-57), 3) := by decide +kernel
theorem dX9_doneIn_62 : decode cX9_doneIn 62 = .ok (.iload_n 3, 1) := by decide +kernel
theorem dX9_doneIn_63 : decode cX9_doneIn 63 = .ok (.ireturn, 1) := by decide +kernel
theorem dX9_doneFrom_0 : decode cX9_doneFrom 0 = .ok (.aload_n 0, 1) := by decide +kernel
theorem dX9_doneFrom_1 : decode cX9_doneFrom 1 = .ok (.iload_n 1, 1) := by decide +kernel
theorem dX9_doneFrom_2 : decode cX9_doneFrom 2 = .ok (.invokevirtual 66, 3) := by decide +kernel
theorem dX9_doneFrom_5 : decode cX9_doneFrom 5 = .ok (.ifCond .ne 10, 3) := by decide +kernel
theorem dX9_doneFrom_8 : decode cX9_doneFrom 8 = .ok (.aload_n 0, 1) := by decide +kernel
theorem dX9_doneFrom_9 : decode cX9_doneFrom 9 = .ok (.ldc 37, 2) := by decide +kernel
theorem dX9_doneFrom_11 : decode cX9_doneFrom 11 = .ok (.invokevirtual 51, 3) := by decide +kernel
theorem dX9_doneFrom_14 : decode cX9_doneFrom 14 = .ok (.ireturn, 1) := by decide +kernel
theorem dX9_doneFrom_15 : decode cX9_doneFrom 15 = .ok (.aload_n 0, 1) := by decide +kernel
theorem dX9_doneFrom_16 : decode cX9_doneFrom 16 = .ok (.iload_n 1, 1) := by decide +kernel
theorem dX9_doneFrom_17 : decode cX9_doneFrom 17 = .ok (.iconst 4, 1) := by decide +kernel
theorem dX9_doneFrom_18 : decode cX9_doneFrom 18 = .ok (.invokevirtual 60, 3) := by decide +kernel
theorem dX9_doneFrom_21 : decode cX9_doneFrom 21 = .ok (.iconst 4, 1) := by decide +kernel
theorem dX9_doneFrom_22 : decode cX9_doneFrom 22 = .ok (.if_icmp .eq 13, 3) := by decide +kernel
theorem dX9_doneFrom_25 : decode cX9_doneFrom 25 = .ok (.aload_n 0, 1) := by decide +kernel
theorem dX9_doneFrom_26 : decode cX9_doneFrom 26 = .ok (.sipush 200, 3) := by decide +kernel
theorem dX9_doneFrom_29 : decode cX9_doneFrom 29 = .ok (.invokevirtual 171, 3) := by decide +kernel
theorem dX9_doneFrom_32 : decode cX9_doneFrom 32 = .ok (.ifCond .eq 10, 3) := by decide +kernel
theorem dX9_doneFrom_35 : decode cX9_doneFrom 35 = .ok (.aload_n 0, 1) := by decide +kernel
theorem dX9_doneFrom_36 : decode cX9_doneFrom 36 = .ok (.ldc 98, 2) := by decide +kernel
theorem dX9_doneFrom_38 : decode cX9_doneFrom 38 = .ok (.invokevirtual 51, 3) := by decide +kernel
theorem dX9_doneFrom_41 : decode cX9_doneFrom 41 = .ok (.ireturn, 1) := by decide +kernel
theorem dX9_doneFrom_42 : decode cX9_doneFrom 42 = .ok (.aload_n 0, 1) := by decide +kernel
theorem dX9_doneFrom_43 : decode cX9_doneFrom 43 = .ok (.invokevirtual 179, 3) := by decide +kernel
theorem dX9_doneFrom_46 : decode cX9_doneFrom 46 = .ok (.aload_n 0, 1) := by decide +kernel
theorem dX9_doneFrom_47 : decode cX9_doneFrom 47 = .ok (.iload_n 1, 1) := by decide +kernel
theorem dX9_doneFrom_48 : decode cX9_doneFrom 48 = .ok (.iload_n 2, 1) := by decide +kernel
theorem dX9_doneFrom_49 : decode cX9_doneFrom 49 = .ok (.invokevirtual 191, 3) := by decide +kernel
theorem dX9_doneFrom_52 : decode cX9_doneFrom 52 = .ok (.istore_n 3, 1) := by decide +kernel
theorem dX9_doneFrom_53 : decode cX9_doneFrom 53 = .ok (.aload_n 0, 1) := by decide +kernel
theorem dX9_doneFrom_54 : decode cX9_doneFrom 54 = .ok (.invokevirtual 188, 3) := by decide +kernel
theorem dX9_doneFrom_57 : decode cX9_doneFrom 57 = .ok (.iload_n 3, 1) := by decide +kernel
theorem dX9_doneFrom_58 : decode cX9_doneFrom 58 = .ok (.sipush 200, 3) := by decide +kernel
theorem dX9_doneFrom_61 : decode cX9_doneFrom 61 = .ok (.if_icmp .le 12, 3) := by decide +kernel
theorem dX9_doneFrom_64 : decode cX9_doneFrom 64 = .ok (.aload_n 0, 1) := by decide +kernel
theorem dX9_doneFrom_65 : decode cX9_doneFrom 65 = .ok (.ldc 195, 2) := by decide +kernel
theorem dX9_doneFrom_67 : decode cX9_doneFrom 67 = .ok (.invokevirtual 51, 3) := by decide +kernel
theorem dX9_doneFrom_70 : decode cX9_doneFrom 70 = .ok (.goto 4, 3) := by decide +kernel
theorem dX9_doneFrom_73 : decode cX9_doneFrom 73 = .ok (.iload_n 3, 1) := by decide +kernel
theorem dX9_doneFrom_74 : decode cX9_doneFrom 74 = .ok (.ireturn, 1) := by decide +kernel
theorem dX9_ready_0 : decode cX9_ready 0 = .ok (.aload_n 0, 1) := by decide +kernel
theorem dX9_ready_1 : decode cX9_ready 1 = .ok (.iload_n 1, 1) := by decide +kernel
theorem dX9_ready_2 : decode cX9_ready 2 = .ok (.iconst 0, 1) := by decide +kernel
theorem dX9_ready_3 : decode cX9_ready 3 = .ok (.invokevirtual 196, 3) := by decide +kernel
theorem dX9_ready_6 : decode cX9_ready 6 = .ok (.ireturn, 1) := by decide +kernel
theorem dX9_burnt_0 : decode cX9_burnt 0 = .ok (.aload_n 0, 1) := by decide +kernel
theorem dX9_burnt_1 : decode cX9_burnt 1 = .ok (.iload_n 1, 1) := by decide +kernel
theorem dX9_burnt_2 : decode cX9_burnt 2 = .ok (.iconst 1, 1) := by decide +kernel
theorem dX9_burnt_3 : decode cX9_burnt 3 = .ok (.invokevirtual 196, 3) := by decide +kernel
theorem dX9_burnt_6 : decode cX9_burnt 6 = .ok (.ireturn, 1) := by decide +kernel
theorem dX9_putOn_0 : decode cX9_putOn 0 = .ok (.aload_n 0, 1) := by decide +kernel
theorem dX9_putOn_1 : decode cX9_putOn 1 = .ok (.iload_n 1, 1) := by decide +kernel
theorem dX9_putOn_2 : decode cX9_putOn 2 = .ok (.invokevirtual 66, 3) := by decide +kernel
theorem dX9_putOn_5 : decode cX9_putOn 5 = .ok (.ifCond .eq 15, 3) := by decide +kernel
theorem dX9_putOn_8 : decode cX9_putOn 8 = .ok (.iload_n 2, 1) := by decide +kernel
theorem dX9_putOn_9 : decode cX9_putOn 9 = .ok (.i2l, 1) := by decide +kernel
theorem dX9_putOn_10 : decode cX9_putOn 10 = .ok (.lconst 0, 1) := by decide +kernel
theorem dX9_putOn_11 : decode cX9_putOn 11 = .ok (.ldc2_w 80, 3) := by decide +kernel
theorem dX9_putOn_14 : decode cX9_putOn 14 = .ok (.invokestatic 38, 3) := by decide +kernel
theorem dX9_putOn_17 : decode cX9_putOn 17 = .ok (.ifCond .ne 10, 3) := by decide +kernel
theorem dX9_putOn_20 : decode cX9_putOn 20 = .ok (.aload_n 0, 1) := by decide +kernel
theorem dX9_putOn_21 : decode cX9_putOn 21 = .ok (.ldc 37, 2) := by decide +kernel
theorem dX9_putOn_23 : decode cX9_putOn 23 = .ok (.invokevirtual 51, 3) := by decide +kernel
theorem dX9_putOn_26 : decode cX9_putOn 26 = .ok (.ireturn, 1) := by decide +kernel
theorem dX9_putOn_27 : decode cX9_putOn 27 = .ok (.aload_n 0, 1) := by decide +kernel
theorem dX9_putOn_28 : decode cX9_putOn 28 = .ok (.iload_n 1, 1) := by decide +kernel
theorem dX9_putOn_29 : decode cX9_putOn 29 = .ok (.iconst 4, 1) := by decide +kernel
theorem dX9_putOn_30 : decode cX9_putOn 30 = .ok (.invokevirtual 60, 3) := by decide +kernel
theorem dX9_putOn_33 : decode cX9_putOn 33 = .ok (.ifCond .ne 13, 3) := by decide +kernel
theorem dX9_putOn_36 : decode cX9_putOn 36 = .ok (.aload_n 0, 1) := by decide +kernel
theorem dX9_putOn_37 : decode cX9_putOn 37 = .ok (.sipush 260, 3) := by decide +kernel
theorem dX9_putOn_40 : decode cX9_putOn 40 = .ok (.invokevirtual 171, 3) := by decide +kernel
theorem dX9_putOn_43 : decode cX9_putOn 43 = .ok (.ifCond .eq 10, 3) := by decide +kernel
theorem dX9_putOn_46 : decode cX9_putOn 46 = .ok (.aload_n 0, 1) := by decide +kernel
theorem dX9_putOn_47 : decode cX9_putOn 47 = .ok (.ldc 98, 2) := by decide +kernel
theorem dX9_putOn_49 : decode cX9_putOn 49 = .ok (.invokevirtual 51, 3) := by decide +kernel
theorem dX9_putOn_52 : decode cX9_putOn 52 = .ok (.ireturn, 1) := by decide +kernel
theorem dX9_putOn_53 : decode cX9_putOn 53 = .ok (.aload_n 0, 1) := by decide +kernel
theorem dX9_putOn_54 : decode cX9_putOn 54 = .ok (.invokevirtual 179, 3) := by decide +kernel
theorem dX9_putOn_57 : decode cX9_putOn 57 = .ok (.iconst (-1), 1) := by decide +kernel
theorem dX9_putOn_58 : decode cX9_putOn 58 = .ok (.istore_n 3, 1) := by decide +kernel
theorem dX9_putOn_59 : decode cX9_putOn 59 = .ok (.bipush 60, 2) := by decide +kernel
theorem dX9_putOn_61 : decode cX9_putOn 61 = .ok (.istore 4, 2) := by decide +kernel
theorem dX9_putOn_63 : decode cX9_putOn 63 = .ok (.iload 4, 2) := by decide +kernel
theorem dX9_putOn_65 : decode cX9_putOn 65 = .ok (.ifCond .lt 76, 3) := by decide +kernel
theorem dX9_putOn_68 : decode cX9_putOn 68 = .ok (.iload_n 3, 1) := by decide +kernel
theorem dX9_putOn_69 : decode cX9_putOn 69 = .ok (.ifCond .ge 72, 3) := by decide +kernel
theorem dX9_putOn_72 : decode cX9_putOn 72 = .ok (.aload_n 0, 1) := by decide +kernel
theorem dX9_putOn_73 : decode cX9_putOn 73 = .ok (.iload 4, 2) := by decide +kernel
theorem dX9_putOn_75 : decode cX9_putOn 75 = .ok (.invokevirtual 174, 3) := by decide +kernel
theorem dX9_putOn_78 : decode cX9_putOn 78 = .ok (.aload_n 0, 1) := by decide +kernel
theorem dX9_putOn_79 : decode cX9_putOn 79 = .ok (.iconst 1, 1) := by decide +kernel
theorem dX9_putOn_80 : decode cX9_putOn 80 = .ok (.invokevirtual 99, 3) := by decide +kernel
theorem dX9_putOn_83 : decode cX9_putOn 83 = .ok (.ifCond .eq 48, 3) := by decide +kernel
theorem dX9_putOn_86 : decode cX9_putOn 86 = .ok (.aload_n 0, 1) := by decide +kernel
theorem dX9_putOn_87 : decode cX9_putOn 87 = .ok (.iload_n 1, 1) := by decide +kernel
theorem dX9_putOn_88 : decode cX9_putOn 88 = .ok (.iconst 1, 1) := by decide +kernel
theorem dX9_putOn_89 : decode cX9_putOn 89 = .ok (.invokevirtual 102, 3) := by decide +kernel
theorem dX9_putOn_92 : decode cX9_putOn 92 = .ok (.aload_n 0, 1) := by decide +kernel
theorem dX9_putOn_93 : decode cX9_putOn 93 = .ok (.iload_n 1, 1) := by decide +kernel
theorem dX9_putOn_94 : decode cX9_putOn 94 = .ok (.iconst 0, 1) := by decide +kernel
theorem dX9_putOn_95 : decode cX9_putOn 95 = .ok (.invokevirtual 191, 3) := by decide +kernel
theorem dX9_putOn_98 : decode cX9_putOn 98 = .ok (.istore 5, 2) := by decide +kernel
theorem dX9_putOn_100 : decode cX9_putOn 100 = .ok (.iload 5, 2) := by decide +kernel
theorem dX9_putOn_102 : decode cX9_putOn 102 = .ok (.sipush 201, 3) := by decide +kernel
theorem dX9_putOn_105 : decode cX9_putOn 105 = .ok (.if_icmp .ge 24, 3) := by decide +kernel
theorem dX9_putOn_108 : decode cX9_putOn 108 = .ok (.aload_n 0, 1) := by decide +kernel
theorem dX9_putOn_109 : decode cX9_putOn 109 = .ok (.getfield 16, 3) := by decide +kernel
theorem dX9_putOn_112 : decode cX9_putOn 112 = .ok (.iconst 0, 1) := by decide +kernel
theorem dX9_putOn_113 : decode cX9_putOn 113 = .ok (.iaload, 1) := by decide +kernel
theorem dX9_putOn_114 : decode cX9_putOn 114 = .ok (.iload 4, 2) := by decide +kernel
theorem dX9_putOn_116 : decode cX9_putOn 116 = .ok (.iadd, 1) := by decide +kernel
theorem dX9_putOn_117 : decode cX9_putOn 117 = .ok (.iload 5, 2) := by decide +kernel
theorem dX9_putOn_119 : decode cX9_putOn 119 = .ok (.iadd, 1) := by decide +kernel
theorem dX9_putOn_120 : decode cX9_putOn 120 = .ok (.iload_n 2, 1) := by decide +kernel
theorem dX9_putOn_121 : decode cX9_putOn 121 = .ok (.if_icmp .ne 8, 3) := by decide +kernel
theorem dX9_putOn_124 : decode cX9_putOn 124 = .ok (.iload 4, 2) := by decide +kernel
theorem dX9_putOn_126 : decode cX9_putOn 126 = .ok (.goto 4, 3) := by decide +kernel
theorem dX9_putOn_129 : decode cX9_putOn 129 = .ok (.iconst (-1), 1) := by decide +kernel
theorem dX9_putOn_130 : decode cX9_putOn 130 = .ok (.istore_n 3, 1) := by decide +kernel
theorem dX9_putOn_131 : decode cX9_putOn 131 = .ok (.aload_n 0, 1) := by decide +kernel
theorem dX9_putOn_132 : decode cX9_putOn 132 = .ok (.invokevirtual 188, 3) := by decide +kernel
theorem dX9_putOn_135 : decode cX9_putOn 135 = .ok (.iinc 4 (-1), 3) := by decide +kernel
theorem dX9_putOn_138 : decode cX9_putOn 138 = .ok (.goto (-75), 3) := by decide +kernel
theorem dX9_putOn_141 : decode cX9_putOn 141 = .ok (.iload_n 3, 1) := by decide +kernel
theorem dX9_putOn_142 : decode cX9_putOn 142 = .ok (.ifCond .ge 12, 3) := by decide +kernel
theorem dX9_putOn_145 : decode cX9_putOn 145 = .ok (.aload_n 0, 1) := by decide +kernel
theorem dX9_putOn_146 : decode cX9_putOn 146 = .ok (.ldc 195, 2) := by decide +kernel
theorem dX9_putOn_148 : decode cX9_putOn 148 = .ok (.invokevirtual 51, 3) := by decide +kernel
theorem dX9_putOn_151 : decode cX9_putOn 151 = .ok (.goto 4, 3) := by decide +kernel
theorem dX9_putOn_154 : decode cX9_putOn 154 = .ok (.iload_n 3, 1) := by decide +kernel
theorem dX9_putOn_155 : decode cX9_putOn 155 = .ok (.ireturn, 1) := by decide +kernel
theorem dX9_coinIn_0 : decode cX9_coinIn 0 = .ok (.aload_n 0, 1) := by decide +kernel
theorem dX9_coinIn_1 : decode cX9_coinIn 1 = .ok (.iload_n 1, 1) := by decide +kernel
theorem dX9_coinIn_2 : decode cX9_coinIn 2 = .ok (.invokevirtual 174, 3) := by decide +kernel
theorem dX9_coinIn_5 : decode cX9_coinIn 5 = .ok (.aload_n 0, 1) := by decide +kernel
theorem dX9_coinIn_6 : decode cX9_coinIn 6 = .ok (.getfield 7, 3) := by decide +kernel
theorem dX9_coinIn_9 : decode cX9_coinIn 9 = .ok (.bipush 7, 2) := by decide +kernel
theorem dX9_coinIn_11 : decode cX9_coinIn 11 = .ok (.iaload, 1) := by decide +kernel
theorem dX9_coinIn_12 : decode cX9_coinIn 12 = .ok (.aload_n 0, 1) := by decide +kernel
theorem dX9_coinIn_13 : decode cX9_coinIn 13 = .ok (.getfield 16, 3) := by decide +kernel
theorem dX9_coinIn_16 : decode cX9_coinIn 16 = .ok (.bipush 7, 2) := by decide +kernel
theorem dX9_coinIn_18 : decode cX9_coinIn 18 = .ok (.iaload, 1) := by decide +kernel
theorem dX9_coinIn_19 : decode cX9_coinIn 19 = .ok (.isub, 1) := by decide +kernel
theorem dX9_coinIn_20 : decode cX9_coinIn 20 = .ok (.istore_n 2, 1) := by decide +kernel
theorem dX9_coinIn_21 : decode cX9_coinIn 21 = .ok (.aload_n 0, 1) := by decide +kernel
theorem dX9_coinIn_22 : decode cX9_coinIn 22 = .ok (.invokevirtual 188, 3) := by decide +kernel
theorem dX9_coinIn_25 : decode cX9_coinIn 25 = .ok (.iload_n 2, 1) := by decide +kernel
theorem dX9_coinIn_26 : decode cX9_coinIn 26 = .ok (.ireturn, 1) := by decide +kernel
theorem dX9_isSpan_0 : decode cX9_isSpan 0 = .ok (.iload_n 0, 1) := by decide +kernel
theorem dX9_isSpan_1 : decode cX9_isSpan 1 = .ok (.i2l, 1) := by decide +kernel
theorem dX9_isSpan_2 : decode cX9_isSpan 2 = .ok (.lconst 1, 1) := by decide +kernel
theorem dX9_isSpan_3 : decode cX9_isSpan 3 = .ok (.ldc2_w 169, 3) := by decide +kernel
theorem dX9_isSpan_6 : decode cX9_isSpan 6 = .ok (.invokestatic 38, 3) := by decide +kernel
theorem dX9_isSpan_9 : decode cX9_isSpan 9 = .ok (.ireturn, 1) := by decide +kernel
theorem dX9_isRoasting_0 : decode cX9_isRoasting 0 = .ok (.aload_n 0, 1) := by decide +kernel
theorem dX9_isRoasting_1 : decode cX9_isRoasting 1 = .ok (.iload_n 1, 1) := by decide +kernel
theorem dX9_isRoasting_2 : decode cX9_isRoasting 2 = .ok (.iconst 4, 1) := by decide +kernel
theorem dX9_isRoasting_3 : decode cX9_isRoasting 3 = .ok (.invokevirtual 60, 3) := by decide +kernel
theorem dX9_isRoasting_6 : decode cX9_isRoasting 6 = .ok (.iconst 1, 1) := by decide +kernel
theorem dX9_isRoasting_7 : decode cX9_isRoasting 7 = .ok (.if_icmp .eq 13, 3) := by decide +kernel
theorem dX9_isRoasting_10 : decode cX9_isRoasting 10 = .ok (.aload_n 0, 1) := by decide +kernel
theorem dX9_isRoasting_11 : decode cX9_isRoasting 11 = .ok (.iload_n 1, 1) := by decide +kernel
theorem dX9_isRoasting_12 : decode cX9_isRoasting 12 = .ok (.iconst 4, 1) := by decide +kernel
theorem dX9_isRoasting_13 : decode cX9_isRoasting 13 = .ok (.invokevirtual 60, 3) := by decide +kernel
theorem dX9_isRoasting_16 : decode cX9_isRoasting 16 = .ok (.iconst 2, 1) := by decide +kernel
theorem dX9_isRoasting_17 : decode cX9_isRoasting 17 = .ok (.if_icmp .ne 7, 3) := by decide +kernel
theorem dX9_isRoasting_20 : decode cX9_isRoasting 20 = .ok (.iconst 1, 1) := by decide +kernel
theorem dX9_isRoasting_21 : decode cX9_isRoasting 21 = .ok (.goto 4, 3) := by decide +kernel
theorem dX9_isRoasting_24 : decode cX9_isRoasting 24 = .ok (.iconst 0, 1) := by decide +kernel
theorem dX9_isRoasting_25 : decode cX9_isRoasting 25 = .ok (.ireturn, 1) := by decide +kernel
theorem dX9_takeOff_0 : decode cX9_takeOff 0 = .ok (.aload_n 0, 1) := by decide +kernel
theorem dX9_takeOff_1 : decode cX9_takeOff 1 = .ok (.iload_n 1, 1) := by decide +kernel
theorem dX9_takeOff_2 : decode cX9_takeOff 2 = .ok (.invokevirtual 66, 3) := by decide +kernel
theorem dX9_takeOff_5 : decode cX9_takeOff 5 = .ok (.ifCond .eq 10, 3) := by decide +kernel
theorem dX9_takeOff_8 : decode cX9_takeOff 8 = .ok (.iload_n 2, 1) := by decide +kernel
theorem dX9_takeOff_9 : decode cX9_takeOff 9 = .ok (.invokestatic 199, 3) := by decide +kernel
theorem dX9_takeOff_12 : decode cX9_takeOff 12 = .ok (.ifCond .ne 10, 3) := by decide +kernel
theorem dX9_takeOff_15 : decode cX9_takeOff 15 = .ok (.aload_n 0, 1) := by decide +kernel
theorem dX9_takeOff_16 : decode cX9_takeOff 16 = .ok (.ldc 37, 2) := by decide +kernel
theorem dX9_takeOff_18 : decode cX9_takeOff 18 = .ok (.invokevirtual 51, 3) := by decide +kernel
theorem dX9_takeOff_21 : decode cX9_takeOff 21 = .ok (.ireturn, 1) := by decide +kernel
theorem dX9_takeOff_22 : decode cX9_takeOff 22 = .ok (.aload_n 0, 1) := by decide +kernel
theorem dX9_takeOff_23 : decode cX9_takeOff 23 = .ok (.iload_n 1, 1) := by decide +kernel
theorem dX9_takeOff_24 : decode cX9_takeOff 24 = .ok (.invokevirtual 202, 3) := by decide +kernel
theorem dX9_takeOff_27 : decode cX9_takeOff 27 = .ok (.ifCond .eq 11, 3) := by decide +kernel
theorem dX9_takeOff_30 : decode cX9_takeOff 30 = .ok (.aload_n 0, 1) := by decide +kernel
theorem dX9_takeOff_31 : decode cX9_takeOff 31 = .ok (.iload_n 2, 1) := by decide +kernel
theorem dX9_takeOff_32 : decode cX9_takeOff 32 = .ok (.invokevirtual 171, 3) := by decide +kernel
theorem dX9_takeOff_35 : decode cX9_takeOff 35 = .ok (.ifCond .eq 10, 3) := by decide +kernel
theorem dX9_takeOff_38 : decode cX9_takeOff 38 = .ok (.aload_n 0, 1) := by decide +kernel
theorem dX9_takeOff_39 : decode cX9_takeOff 39 = .ok (.ldc 98, 2) := by decide +kernel
theorem dX9_takeOff_41 : decode cX9_takeOff 41 = .ok (.invokevirtual 51, 3) := by decide +kernel
theorem dX9_takeOff_44 : decode cX9_takeOff 44 = .ok (.ireturn, 1) := by decide +kernel
theorem dX9_takeOff_45 : decode cX9_takeOff 45 = .ok (.aload_n 0, 1) := by decide +kernel
theorem dX9_takeOff_46 : decode cX9_takeOff 46 = .ok (.invokevirtual 179, 3) := by decide +kernel
theorem dX9_takeOff_49 : decode cX9_takeOff 49 = .ok (.iconst 0, 1) := by decide +kernel
theorem dX9_takeOff_50 : decode cX9_takeOff 50 = .ok (.istore_n 3, 1) := by decide +kernel
theorem dX9_takeOff_51 : decode cX9_takeOff 51 = .ok (.iconst (-1), 1) := by decide +kernel
theorem dX9_takeOff_52 : decode cX9_takeOff 52 = .ok (.istore 4, 2) := by decide +kernel
theorem dX9_takeOff_54 : decode cX9_takeOff 54 = .ok (.iconst 0, 1) := by decide +kernel
theorem dX9_takeOff_55 : decode cX9_takeOff 55 = .ok (.istore 5, 2) := by decide +kernel
theorem dX9_takeOff_57 : decode cX9_takeOff 57 = .ok (.iload 5, 2) := by decide +kernel
theorem dX9_takeOff_59 : decode cX9_takeOff 59 = .ok (.bipush 61, 2) := by decide +kernel
theorem dX9_takeOff_61 : decode cX9_takeOff 61 = .ok (.if_icmp .ge 91, 3) := by decide +kernel
theorem dX9_takeOff_64 : decode cX9_takeOff 64 = .ok (.iload 5, 2) := by decide +kernel
theorem dX9_takeOff_66 : decode cX9_takeOff 66 = .ok (.iload_n 2, 1) := by decide +kernel
theorem dX9_takeOff_67 : decode cX9_takeOff 67 = .ok (.if_icmp .ge 8, 3) := by decide +kernel
theorem dX9_takeOff_70 : decode cX9_takeOff 70 = .ok (.iload 5, 2) := by decide +kernel
theorem dX9_takeOff_72 : decode cX9_takeOff 72 = .ok (.goto 4, 3) := by decide +kernel
theorem dX9_takeOff_75 : decode cX9_takeOff 75 = .ok (.iload_n 2, 1) := by decide +kernel
theorem dX9_takeOff_76 : decode cX9_takeOff 76 = .ok (.istore 6, 2) := by decide +kernel
theorem dX9_takeOff_78 : decode cX9_takeOff 78 = .ok (.aload_n 0, 1) := by decide +kernel
theorem dX9_takeOff_79 : decode cX9_takeOff 79 = .ok (.iload 6, 2) := by decide +kernel
theorem dX9_takeOff_81 : decode cX9_takeOff 81 = .ok (.invokevirtual 174, 3) := by decide +kernel
theorem dX9_takeOff_84 : decode cX9_takeOff 84 = .ok (.iload 5, 2) := by decide +kernel
theorem dX9_takeOff_86 : decode cX9_takeOff 86 = .ok (.iload_n 2, 1) := by decide +kernel
theorem dX9_takeOff_87 : decode cX9_takeOff 87 = .ok (.if_icmp .ge 19, 3) := by decide +kernel
theorem dX9_takeOff_90 : decode cX9_takeOff 90 = .ok (.aload_n 0, 1) := by decide +kernel
theorem dX9_takeOff_91 : decode cX9_takeOff 91 = .ok (.iload_n 1, 1) := by decide +kernel
theorem dX9_takeOff_92 : decode cX9_takeOff 92 = .ok (.iconst 4, 1) := by decide +kernel
theorem dX9_takeOff_93 : decode cX9_takeOff 93 = .ok (.invokevirtual 60, 3) := by decide +kernel
theorem dX9_takeOff_96 : decode cX9_takeOff 96 = .ok (.iconst 4, 1) := by decide +kernel
theorem dX9_takeOff_97 : decode cX9_takeOff 97 = .ok (.if_icmp .eq 9, 3) := by decide +kernel
theorem dX9_takeOff_100 : decode cX9_takeOff 100 = .ok (.aload_n 0, 1) := by decide +kernel
theorem dX9_takeOff_101 : decode cX9_takeOff 101 = .ok (.iload_n 1, 1) := by decide +kernel
theorem dX9_takeOff_102 : decode cX9_takeOff 102 = .ok (.iconst 3, 1) := by decide +kernel
theorem dX9_takeOff_103 : decode cX9_takeOff 103 = .ok (.invokevirtual 102, 3) := by decide +kernel
theorem dX9_takeOff_106 : decode cX9_takeOff 106 = .ok (.aload_n 0, 1) := by decide +kernel
theorem dX9_takeOff_107 : decode cX9_takeOff 107 = .ok (.iload_n 2, 1) := by decide +kernel
theorem dX9_takeOff_108 : decode cX9_takeOff 108 = .ok (.iload 6, 2) := by decide +kernel
theorem dX9_takeOff_110 : decode cX9_takeOff 110 = .ok (.isub, 1) := by decide +kernel
theorem dX9_takeOff_111 : decode cX9_takeOff 111 = .ok (.invokevirtual 205, 3) := by decide +kernel
theorem dX9_takeOff_114 : decode cX9_takeOff 114 = .ok (.istore 7, 2) := by decide +kernel
theorem dX9_takeOff_116 : decode cX9_takeOff 116 = .ok (.iload 7, 2) := by decide +kernel
theorem dX9_takeOff_118 : decode cX9_takeOff 118 = .ok (.iload 4, 2) := by decide +kernel
theorem dX9_takeOff_120 : decode cX9_takeOff 120 = .ok (.if_icmp .le 8, 3) := by decide +kernel
theorem dX9_takeOff_123 : decode cX9_takeOff 123 = .ok (.iload 5, 2) := by decide +kernel
theorem dX9_takeOff_125 : decode cX9_takeOff 125 = .ok (.goto 4, 3) := by decide +kernel
theorem dX9_takeOff_128 : decode cX9_takeOff 128 = .ok (.iload_n 3, 1) := by decide +kernel
theorem dX9_takeOff_129 : decode cX9_takeOff 129 = .ok (.istore_n 3, 1) := by decide +kernel
theorem dX9_takeOff_130 : decode cX9_takeOff 130 = .ok (.iload 7, 2) := by decide +kernel
theorem dX9_takeOff_132 : decode cX9_takeOff 132 = .ok (.iload 4, 2) := by decide +kernel
theorem dX9_takeOff_134 : decode cX9_takeOff 134 = .ok (.if_icmp .le 8, 3) := by decide +kernel
theorem dX9_takeOff_137 : decode cX9_takeOff 137 = .ok (.iload 7, 2) := by decide +kernel
theorem dX9_takeOff_139 : decode cX9_takeOff 139 = .ok (.goto 5, 3) := by decide +kernel
theorem dX9_takeOff_142 : decode cX9_takeOff 142 = .ok (.iload 4, 2) := by decide +kernel
theorem dX9_takeOff_144 : decode cX9_takeOff 144 = .ok (.istore 4, 2) := by decide +kernel
theorem dX9_takeOff_146 : decode cX9_takeOff 146 = .ok (.iinc 5 1, 3) := by decide +kernel
theorem dX9_takeOff_149 : decode cX9_takeOff 149 = .ok (.goto (-92), 3) := by decide +kernel
theorem dX9_takeOff_152 : decode cX9_takeOff 152 = .ok (.iload_n 3, 1) := by decide +kernel
theorem dX9_takeOff_153 : decode cX9_takeOff 153 = .ok (.ireturn, 1) := by decide +kernel
theorem dX9_shovels_0 : decode cX9_shovels 0 = .ok (.iload_n 1, 1) := by decide +kernel
theorem dX9_shovels_1 : decode cX9_shovels 1 = .ok (.invokestatic 199, 3) := by decide +kernel
theorem dX9_shovels_4 : decode cX9_shovels 4 = .ok (.ifCond .ne 10, 3) := by decide +kernel
theorem dX9_shovels_7 : decode cX9_shovels 7 = .ok (.aload_n 0, 1) := by decide +kernel
theorem dX9_shovels_8 : decode cX9_shovels 8 = .ok (.ldc 37, 2) := by decide +kernel
theorem dX9_shovels_10 : decode cX9_shovels 10 = .ok (.invokevirtual 51, 3) := by decide +kernel
theorem dX9_shovels_13 : decode cX9_shovels 13 = .ok (.ireturn, 1) := by decide +kernel
theorem dX9_shovels_14 : decode cX9_shovels 14 = .ok (.aload_n 0, 1) := by decide +kernel
theorem dX9_shovels_15 : decode cX9_shovels 15 = .ok (.iload_n 1, 1) := by decide +kernel
theorem dX9_shovels_16 : decode cX9_shovels 16 = .ok (.invokevirtual 171, 3) := by decide +kernel
theorem dX9_shovels_19 : decode cX9_shovels 19 = .ok (.ifCond .eq 10, 3) := by decide +kernel
theorem dX9_shovels_22 : decode cX9_shovels 22 = .ok (.aload_n 0, 1) := by decide +kernel
theorem dX9_shovels_23 : decode cX9_shovels 23 = .ok (.ldc 98, 2) := by decide +kernel
theorem dX9_shovels_25 : decode cX9_shovels 25 = .ok (.invokevirtual 51, 3) := by decide +kernel
theorem dX9_shovels_28 : decode cX9_shovels 28 = .ok (.ireturn, 1) := by decide +kernel
theorem dX9_shovels_29 : decode cX9_shovels 29 = .ok (.aload_n 0, 1) := by decide +kernel
theorem dX9_shovels_30 : decode cX9_shovels 30 = .ok (.invokevirtual 179, 3) := by decide +kernel
theorem dX9_shovels_33 : decode cX9_shovels 33 = .ok (.iconst 0, 1) := by decide +kernel
theorem dX9_shovels_34 : decode cX9_shovels 34 = .ok (.istore_n 2, 1) := by decide +kernel
theorem dX9_shovels_35 : decode cX9_shovels 35 = .ok (.iconst (-1), 1) := by decide +kernel
theorem dX9_shovels_36 : decode cX9_shovels 36 = .ok (.istore_n 3, 1) := by decide +kernel
theorem dX9_shovels_37 : decode cX9_shovels 37 = .ok (.iconst 0, 1) := by decide +kernel
theorem dX9_shovels_38 : decode cX9_shovels 38 = .ok (.istore 4, 2) := by decide +kernel
theorem dX9_shovels_40 : decode cX9_shovels 40 = .ok (.iload 4, 2) := by decide +kernel
theorem dX9_shovels_42 : decode cX9_shovels 42 = .ok (.bipush 10, 2) := by decide +kernel
theorem dX9_shovels_44 : decode cX9_shovels 44 = .ok (.if_icmp .ge 54, 3) := by decide +kernel
theorem dX9_shovels_47 : decode cX9_shovels 47 = .ok (.aload_n 0, 1) := by decide +kernel
theorem dX9_shovels_48 : decode cX9_shovels 48 = .ok (.getfield 7, 3) := by decide +kernel
theorem dX9_shovels_51 : decode cX9_shovels 51 = .ok (.bipush 19, 2) := by decide +kernel
theorem dX9_shovels_53 : decode cX9_shovels 53 = .ok (.dup2, 1) := by decide +kernel
theorem dX9_shovels_54 : decode cX9_shovels 54 = .ok (.iaload, 1) := by decide +kernel
theorem dX9_shovels_55 : decode cX9_shovels 55 = .ok (.iload 4, 2) := by decide +kernel
theorem dX9_shovels_57 : decode cX9_shovels 57 = .ok (.iadd, 1) := by decide +kernel
theorem dX9_shovels_58 : decode cX9_shovels 58 = .ok (.iastore, 1) := by decide +kernel
theorem dX9_shovels_59 : decode cX9_shovels 59 = .ok (.aload_n 0, 1) := by decide +kernel
theorem dX9_shovels_60 : decode cX9_shovels 60 = .ok (.iload_n 1, 1) := by decide +kernel
theorem dX9_shovels_61 : decode cX9_shovels 61 = .ok (.invokevirtual 205, 3) := by decide +kernel
theorem dX9_shovels_64 : decode cX9_shovels 64 = .ok (.istore 5, 2) := by decide +kernel
theorem dX9_shovels_66 : decode cX9_shovels 66 = .ok (.iload 5, 2) := by decide +kernel
theorem dX9_shovels_68 : decode cX9_shovels 68 = .ok (.iload_n 3, 1) := by decide +kernel
theorem dX9_shovels_69 : decode cX9_shovels 69 = .ok (.if_icmp .le 8, 3) := by decide +kernel
theorem dX9_shovels_72 : decode cX9_shovels 72 = .ok (.iload 4, 2) := by decide +kernel
theorem dX9_shovels_74 : decode cX9_shovels 74 = .ok (.goto 4, 3) := by decide +kernel
theorem dX9_shovels_77 : decode cX9_shovels 77 = .ok (.iload_n 2, 1) := by decide +kernel
theorem dX9_shovels_78 : decode cX9_shovels 78 = .ok (.istore_n 2, 1) := by decide +kernel
theorem dX9_shovels_79 : decode cX9_shovels 79 = .ok (.iload 5, 2) := by decide +kernel
theorem dX9_shovels_81 : decode cX9_shovels 81 = .ok (.iload_n 3, 1) := by decide +kernel
theorem dX9_shovels_82 : decode cX9_shovels 82 = .ok (.if_icmp .le 8, 3) := by decide +kernel
theorem dX9_shovels_85 : decode cX9_shovels 85 = .ok (.iload 5, 2) := by decide +kernel
theorem dX9_shovels_87 : decode cX9_shovels 87 = .ok (.goto 4, 3) := by decide +kernel
theorem dX9_shovels_90 : decode cX9_shovels 90 = .ok (.iload_n 3, 1) := by decide +kernel
theorem dX9_shovels_91 : decode cX9_shovels 91 = .ok (.istore_n 3, 1) := by decide +kernel
theorem dX9_shovels_92 : decode cX9_shovels 92 = .ok (.iinc 4 1, 3) := by decide +kernel
theorem dX9_shovels_95 : decode cX9_shovels 95 = .ok (.goto (-55), 3) := by decide +kernel
theorem dX9_shovels_98 : decode cX9_shovels 98 = .ok (.iload_n 2, 1) := by decide +kernel
theorem dX9_shovels_99 : decode cX9_shovels 99 = .ok (.ireturn, 1) := by decide +kernel
theorem dX9_corner_0 : decode cX9_corner 0 = .ok (.iload_n 1, 1) := by decide +kernel
theorem dX9_corner_1 : decode cX9_corner 1 = .ok (.invokestatic 199, 3) := by decide +kernel
theorem dX9_corner_4 : decode cX9_corner 4 = .ok (.ifCond .ne 10, 3) := by decide +kernel
theorem dX9_corner_7 : decode cX9_corner 7 = .ok (.aload_n 0, 1) := by decide +kernel
theorem dX9_corner_8 : decode cX9_corner 8 = .ok (.ldc 37, 2) := by decide +kernel
theorem dX9_corner_10 : decode cX9_corner 10 = .ok (.invokevirtual 51, 3) := by decide +kernel
theorem dX9_corner_13 : decode cX9_corner 13 = .ok (.ireturn, 1) := by decide +kernel
theorem dX9_corner_14 : decode cX9_corner 14 = .ok (.aload_n 0, 1) := by decide +kernel
theorem dX9_corner_15 : decode cX9_corner 15 = .ok (.getfield 7, 3) := by decide +kernel
theorem dX9_corner_18 : decode cX9_corner 18 = .ok (.bipush 9, 2) := by decide +kernel
theorem dX9_corner_20 : decode cX9_corner 20 = .ok (.iaload, 1) := by decide +kernel
theorem dX9_corner_21 : decode cX9_corner 21 = .ok (.ifCond .gt 11, 3) := by decide +kernel
theorem dX9_corner_24 : decode cX9_corner 24 = .ok (.aload_n 0, 1) := by decide +kernel
theorem dX9_corner_25 : decode cX9_corner 25 = .ok (.iload_n 1, 1) := by decide +kernel
theorem dX9_corner_26 : decode cX9_corner 26 = .ok (.invokevirtual 171, 3) := by decide +kernel
theorem dX9_corner_29 : decode cX9_corner 29 = .ok (.ifCond .eq 10, 3) := by decide +kernel
theorem dX9_corner_32 : decode cX9_corner 32 = .ok (.aload_n 0, 1) := by decide +kernel
theorem dX9_corner_33 : decode cX9_corner 33 = .ok (.ldc 98, 2) := by decide +kernel
theorem dX9_corner_35 : decode cX9_corner 35 = .ok (.invokevirtual 51, 3) := by decide +kernel
theorem dX9_corner_38 : decode cX9_corner 38 = .ok (.ireturn, 1) := by decide +kernel
theorem dX9_corner_39 : decode cX9_corner 39 = .ok (.aload_n 0, 1) := by decide +kernel
theorem dX9_corner_40 : decode cX9_corner 40 = .ok (.invokevirtual 179, 3) := by decide +kernel
theorem dX9_corner_43 : decode cX9_corner 43 = .ok (.iconst 0, 1) := by decide +kernel
theorem dX9_corner_44 : decode cX9_corner 44 = .ok (.istore_n 2, 1) := by decide +kernel
theorem dX9_corner_45 : decode cX9_corner 45 = .ok (.iconst (-1), 1) := by decide +kernel
theorem dX9_corner_46 : decode cX9_corner 46 = .ok (.istore_n 3, 1) := by decide +kernel
theorem dX9_corner_47 : decode cX9_corner 47 = .ok (.iconst 0, 1) := by decide +kernel
theorem dX9_corner_48 : decode cX9_corner 48 = .ok (.istore 4, 2) := by decide +kernel
theorem dX9_corner_50 : decode cX9_corner 50 = .ok (.iload 4, 2) := by decide +kernel
theorem dX9_corner_52 : decode cX9_corner 52 = .ok (.iconst 4, 1) := by decide +kernel
theorem dX9_corner_53 : decode cX9_corner 53 = .ok (.if_icmp .ge 48, 3) := by decide +kernel
theorem dX9_corner_56 : decode cX9_corner 56 = .ok (.aload_n 0, 1) := by decide +kernel
theorem dX9_corner_57 : decode cX9_corner 57 = .ok (.iload 4, 2) := by decide +kernel
theorem dX9_corner_59 : decode cX9_corner 59 = .ok (.invokevirtual 131, 3) := by decide +kernel
theorem dX9_corner_62 : decode cX9_corner 62 = .ok (.aload_n 0, 1) := by decide +kernel
theorem dX9_corner_63 : decode cX9_corner 63 = .ok (.iload_n 1, 1) := by decide +kernel
theorem dX9_corner_64 : decode cX9_corner 64 = .ok (.invokevirtual 205, 3) := by decide +kernel
theorem dX9_corner_67 : decode cX9_corner 67 = .ok (.istore 5, 2) := by decide +kernel
theorem dX9_corner_69 : decode cX9_corner 69 = .ok (.iload 5, 2) := by decide +kernel
theorem dX9_corner_71 : decode cX9_corner 71 = .ok (.iload_n 3, 1) := by decide +kernel
theorem dX9_corner_72 : decode cX9_corner 72 = .ok (.if_icmp .le 8, 3) := by decide +kernel
theorem dX9_corner_75 : decode cX9_corner 75 = .ok (.iload 4, 2) := by decide +kernel
theorem dX9_corner_77 : decode cX9_corner 77 = .ok (.goto 4, 3) := by decide +kernel
theorem dX9_corner_80 : decode cX9_corner 80 = .ok (.iload_n 2, 1) := by decide +kernel
theorem dX9_corner_81 : decode cX9_corner 81 = .ok (.istore_n 2, 1) := by decide +kernel
theorem dX9_corner_82 : decode cX9_corner 82 = .ok (.iload 5, 2) := by decide +kernel
theorem dX9_corner_84 : decode cX9_corner 84 = .ok (.iload_n 3, 1) := by decide +kernel
theorem dX9_corner_85 : decode cX9_corner 85 = .ok (.if_icmp .le 8, 3) := by decide +kernel
theorem dX9_corner_88 : decode cX9_corner 88 = .ok (.iload 5, 2) := by decide +kernel
theorem dX9_corner_90 : decode cX9_corner 90 = .ok (.goto 4, 3) := by decide +kernel
theorem dX9_corner_93 : decode cX9_corner 93 = .ok (.iload_n 3, 1) := by decide +kernel
theorem dX9_corner_94 : decode cX9_corner 94 = .ok (.istore_n 3, 1) := by decide +kernel
theorem dX9_corner_95 : decode cX9_corner 95 = .ok (.iinc 4 1, 3) := by decide +kernel
theorem dX9_corner_98 : decode cX9_corner 98 = .ok (.goto (-48), 3) := by decide +kernel
theorem dX9_corner_101 : decode cX9_corner 101 = .ok (.iload_n 2, 1) := by decide +kernel
theorem dX9_corner_102 : decode cX9_corner 102 = .ok (.ireturn, 1) := by decide +kernel
theorem dX9_two_0 : decode cX9_two 0 = .ok (.iload_n 1, 1) := by decide +kernel
theorem dX9_two_1 : decode cX9_two 1 = .ok (.i2l, 1) := by decide +kernel
theorem dX9_two_2 : decode cX9_two 2 = .ok (.lconst 1, 1) := by decide +kernel
theorem dX9_two_3 : decode cX9_two 3 = .ok (.ldc2_w 208, 3) := by decide +kernel
theorem dX9_two_6 : decode cX9_two 6 = .ok (.invokestatic 38, 3) := by decide +kernel
theorem dX9_two_9 : decode cX9_two 9 = .ok (.ifCond .eq 15, 3) := by decide +kernel
theorem dX9_two_12 : decode cX9_two 12 = .ok (.iload_n 2, 1) := by decide +kernel
theorem dX9_two_13 : decode cX9_two 13 = .ok (.invokestatic 199, 3) := by decide +kernel
theorem dX9_two_16 : decode cX9_two 16 = .ok (.ifCond .eq 8, 3) := by decide +kernel
theorem dX9_two_19 : decode cX9_two 19 = .ok (.iload_n 2, 1) := by decide +kernel
theorem dX9_two_20 : decode cX9_two 20 = .ok (.iload_n 1, 1) := by decide +kernel
theorem dX9_two_21 : decode cX9_two 21 = .ok (.if_icmp .gt 10, 3) := by decide +kernel
theorem dX9_two_24 : decode cX9_two 24 = .ok (.aload_n 0, 1) := by decide +kernel
theorem dX9_two_25 : decode cX9_two 25 = .ok (.ldc 37, 2) := by decide +kernel
theorem dX9_two_27 : decode cX9_two 27 = .ok (.invokevirtual 51, 3) := by decide +kernel
theorem dX9_two_30 : decode cX9_two 30 = .ok (.ireturn, 1) := by decide +kernel
theorem dX9_two_31 : decode cX9_two 31 = .ok (.aload_n 0, 1) := by decide +kernel
theorem dX9_two_32 : decode cX9_two 32 = .ok (.getfield 7, 3) := by decide +kernel
theorem dX9_two_35 : decode cX9_two 35 = .ok (.bipush 9, 2) := by decide +kernel
theorem dX9_two_37 : decode cX9_two 37 = .ok (.iaload, 1) := by decide +kernel
theorem dX9_two_38 : decode cX9_two 38 = .ok (.ifCond .gt 11, 3) := by decide +kernel
theorem dX9_two_41 : decode cX9_two 41 = .ok (.aload_n 0, 1) := by decide +kernel
theorem dX9_two_42 : decode cX9_two 42 = .ok (.iload_n 2, 1) := by decide +kernel
theorem dX9_two_43 : decode cX9_two 43 = .ok (.invokevirtual 171, 3) := by decide +kernel
theorem dX9_two_46 : decode cX9_two 46 = .ok (.ifCond .eq 10, 3) := by decide +kernel
theorem dX9_two_49 : decode cX9_two 49 = .ok (.aload_n 0, 1) := by decide +kernel
theorem dX9_two_50 : decode cX9_two 50 = .ok (.ldc 98, 2) := by decide +kernel
theorem dX9_two_52 : decode cX9_two 52 = .ok (.invokevirtual 51, 3) := by decide +kernel
theorem dX9_two_55 : decode cX9_two 55 = .ok (.ireturn, 1) := by decide +kernel
theorem dX9_two_56 : decode cX9_two 56 = .ok (.aload_n 0, 1) := by decide +kernel
theorem dX9_two_57 : decode cX9_two 57 = .ok (.invokevirtual 179, 3) := by decide +kernel
theorem dX9_two_60 : decode cX9_two 60 = .ok (.iconst 0, 1) := by decide +kernel
theorem dX9_two_61 : decode cX9_two 61 = .ok (.istore_n 3, 1) := by decide +kernel
theorem dX9_two_62 : decode cX9_two 62 = .ok (.iconst (-1), 1) := by decide +kernel
theorem dX9_two_63 : decode cX9_two 63 = .ok (.istore 4, 2) := by decide +kernel
theorem dX9_two_65 : decode cX9_two 65 = .ok (.iconst 0, 1) := by decide +kernel
theorem dX9_two_66 : decode cX9_two 66 = .ok (.istore 5, 2) := by decide +kernel
theorem dX9_two_68 : decode cX9_two 68 = .ok (.iload 5, 2) := by decide +kernel
theorem dX9_two_70 : decode cX9_two 70 = .ok (.bipush 16, 2) := by decide +kernel
theorem dX9_two_72 : decode cX9_two 72 = .ok (.if_icmp .ge 89, 3) := by decide +kernel
theorem dX9_two_75 : decode cX9_two 75 = .ok (.aload_n 0, 1) := by decide +kernel
theorem dX9_two_76 : decode cX9_two 76 = .ok (.iload 5, 2) := by decide +kernel
theorem dX9_two_78 : decode cX9_two 78 = .ok (.iconst 4, 1) := by decide +kernel
theorem dX9_two_79 : decode cX9_two 79 = .ok (.idiv, 1) := by decide +kernel
theorem dX9_two_80 : decode cX9_two 80 = .ok (.invokevirtual 131, 3) := by decide +kernel
theorem dX9_two_83 : decode cX9_two 83 = .ok (.aload_n 0, 1) := by decide +kernel
theorem dX9_two_84 : decode cX9_two 84 = .ok (.iload_n 1, 1) := by decide +kernel
theorem dX9_two_85 : decode cX9_two 85 = .ok (.invokevirtual 174, 3) := by decide +kernel
theorem dX9_two_88 : decode cX9_two 88 = .ok (.aload_n 0, 1) := by decide +kernel
theorem dX9_two_89 : decode cX9_two 89 = .ok (.getfield 7, 3) := by decide +kernel
theorem dX9_two_92 : decode cX9_two 92 = .ok (.bipush 9, 2) := by decide +kernel
theorem dX9_two_94 : decode cX9_two 94 = .ok (.iaload, 1) := by decide +kernel
theorem dX9_two_95 : decode cX9_two 95 = .ok (.ifCond .ne 11, 3) := by decide +kernel
theorem dX9_two_98 : decode cX9_two 98 = .ok (.aload_n 0, 1) := by decide +kernel
theorem dX9_two_99 : decode cX9_two 99 = .ok (.iload 5, 2) := by decide +kernel
theorem dX9_two_101 : decode cX9_two 101 = .ok (.iconst 4, 1) := by decide +kernel
theorem dX9_two_102 : decode cX9_two 102 = .ok (.irem, 1) := by decide +kernel
theorem dX9_two_103 : decode cX9_two 103 = .ok (.invokevirtual 131, 3) := by decide +kernel
theorem dX9_two_106 : decode cX9_two 106 = .ok (.aload_n 0, 1) := by decide +kernel
theorem dX9_two_107 : decode cX9_two 107 = .ok (.iload_n 2, 1) := by decide +kernel
theorem dX9_two_108 : decode cX9_two 108 = .ok (.iload_n 1, 1) := by decide +kernel
theorem dX9_two_109 : decode cX9_two 109 = .ok (.isub, 1) := by decide +kernel
theorem dX9_two_110 : decode cX9_two 110 = .ok (.invokevirtual 205, 3) := by decide +kernel
theorem dX9_two_113 : decode cX9_two 113 = .ok (.istore 6, 2) := by decide +kernel
theorem dX9_two_115 : decode cX9_two 115 = .ok (.iload 6, 2) := by decide +kernel
theorem dX9_two_117 : decode cX9_two 117 = .ok (.iload 4, 2) := by decide +kernel
theorem dX9_two_119 : decode cX9_two 119 = .ok (.if_icmp .le 18, 3) := by decide +kernel
theorem dX9_two_122 : decode cX9_two 122 = .ok (.bipush 10, 2) := by decide +kernel
theorem dX9_two_124 : decode cX9_two 124 = .ok (.iload 5, 2) := by decide +kernel
theorem dX9_two_126 : decode cX9_two 126 = .ok (.iconst 4, 1) := by decide +kernel
theorem dX9_two_127 : decode cX9_two 127 = .ok (.idiv, 1) := by decide +kernel
theorem dX9_two_128 : decode cX9_two 128 = .ok (.imul, 1) := by decide +kernel
theorem dX9_two_129 : decode cX9_two 129 = .ok (.iload 5, 2) := by decide +kernel
theorem dX9_two_131 : decode cX9_two 131 = .ok (.iconst 4, 1) := by decide +kernel
theorem dX9_two_132 : decode cX9_two 132 = .ok (.irem, 1) := by decide +kernel
theorem dX9_two_133 : decode cX9_two 133 = .ok (.iadd, 1) := by decide +kernel
theorem dX9_two_134 : decode cX9_two 134 = .ok (.goto 4, 3) := by decide +kernel
theorem dX9_two_137 : decode cX9_two 137 = .ok (.iload_n 3, 1) := by decide +kernel
theorem dX9_two_138 : decode cX9_two 138 = .ok (.istore_n 3, 1) := by decide +kernel
theorem dX9_two_139 : decode cX9_two 139 = .ok (.iload 6, 2) := by decide +kernel
theorem dX9_two_141 : decode cX9_two 141 = .ok (.iload 4, 2) := by decide +kernel
theorem dX9_two_143 : decode cX9_two 143 = .ok (.if_icmp .le 8, 3) := by decide +kernel
theorem dX9_two_146 : decode cX9_two 146 = .ok (.iload 6, 2) := by decide +kernel
theorem dX9_two_148 : decode cX9_two 148 = .ok (.goto 5, 3) := by decide +kernel
theorem dX9_two_151 : decode cX9_two 151 = .ok (.iload 4, 2) := by decide +kernel
theorem dX9_two_153 : decode cX9_two 153 = .ok (.istore 4, 2) := by decide +kernel
theorem dX9_two_155 : decode cX9_two 155 = .ok (.iinc 5 1, 3) := by decide +kernel
theorem dX9_two_158 : decode cX9_two 158 = .ok (.goto (-90), 3) := by decide +kernel
theorem dX9_two_161 : decode cX9_two 161 = .ok (.iload_n 3, 1) := by decide +kernel
theorem dX9_two_162 : decode cX9_two 162 = .ok (.ireturn, 1) := by decide +kernel
theorem dX9_price_0 : decode cX9_price 0 = .ok (.iload_n 1, 1) := by decide +kernel
theorem dX9_price_1 : decode cX9_price 1 = .ok (.invokestatic 199, 3) := by decide +kernel
theorem dX9_price_4 : decode cX9_price 4 = .ok (.ifCond .ne 10, 3) := by decide +kernel
theorem dX9_price_7 : decode cX9_price 7 = .ok (.aload_n 0, 1) := by decide +kernel
theorem dX9_price_8 : decode cX9_price 8 = .ok (.ldc 37, 2) := by decide +kernel
theorem dX9_price_10 : decode cX9_price 10 = .ok (.invokevirtual 51, 3) := by decide +kernel
theorem dX9_price_13 : decode cX9_price 13 = .ok (.ireturn, 1) := by decide +kernel
theorem dX9_price_14 : decode cX9_price 14 = .ok (.aload_n 0, 1) := by decide +kernel
theorem dX9_price_15 : decode cX9_price 15 = .ok (.iload_n 1, 1) := by decide +kernel
theorem dX9_price_16 : decode cX9_price 16 = .ok (.invokevirtual 171, 3) := by decide +kernel
theorem dX9_price_19 : decode cX9_price 19 = .ok (.ifCond .eq 10, 3) := by decide +kernel
theorem dX9_price_22 : decode cX9_price 22 = .ok (.aload_n 0, 1) := by decide +kernel
theorem dX9_price_23 : decode cX9_price 23 = .ok (.ldc 98, 2) := by decide +kernel
theorem dX9_price_25 : decode cX9_price 25 = .ok (.invokevirtual 51, 3) := by decide +kernel
theorem dX9_price_28 : decode cX9_price 28 = .ok (.ireturn, 1) := by decide +kernel
theorem dX9_price_29 : decode cX9_price 29 = .ok (.aload_n 0, 1) := by decide +kernel
theorem dX9_price_30 : decode cX9_price 30 = .ok (.invokevirtual 179, 3) := by decide +kernel
theorem dX9_price_33 : decode cX9_price 33 = .ok (.iconst 0, 1) := by decide +kernel
theorem dX9_price_34 : decode cX9_price 34 = .ok (.istore_n 2, 1) := by decide +kernel
theorem dX9_price_35 : decode cX9_price 35 = .ok (.iconst (-1), 1) := by decide +kernel
theorem dX9_price_36 : decode cX9_price 36 = .ok (.istore_n 3, 1) := by decide +kernel
theorem dX9_price_37 : decode cX9_price 37 = .ok (.iconst 0, 1) := by decide +kernel
theorem dX9_price_38 : decode cX9_price 38 = .ok (.istore 4, 2) := by decide +kernel
theorem dX9_price_40 : decode cX9_price 40 = .ok (.iload 4, 2) := by decide +kernel
theorem dX9_price_42 : decode cX9_price 42 = .ok (.bipush 100, 2) := by decide +kernel
theorem dX9_price_44 : decode cX9_price 44 = .ok (.if_icmp .ge 50, 3) := by decide +kernel
theorem dX9_price_47 : decode cX9_price 47 = .ok (.aload_n 0, 1) := by decide +kernel
theorem dX9_price_48 : decode cX9_price 48 = .ok (.getfield 7, 3) := by decide +kernel
theorem dX9_price_51 : decode cX9_price 51 = .ok (.iconst 5, 1) := by decide +kernel
theorem dX9_price_52 : decode cX9_price 52 = .ok (.iload 4, 2) := by decide +kernel
theorem dX9_price_54 : decode cX9_price 54 = .ok (.iastore, 1) := by decide +kernel
theorem dX9_price_55 : decode cX9_price 55 = .ok (.aload_n 0, 1) := by decide +kernel
theorem dX9_price_56 : decode cX9_price 56 = .ok (.iload_n 1, 1) := by decide +kernel
theorem dX9_price_57 : decode cX9_price 57 = .ok (.invokevirtual 205, 3) := by decide +kernel
theorem dX9_price_60 : decode cX9_price 60 = .ok (.istore 5, 2) := by decide +kernel
theorem dX9_price_62 : decode cX9_price 62 = .ok (.iload 5, 2) := by decide +kernel
theorem dX9_price_64 : decode cX9_price 64 = .ok (.iload_n 3, 1) := by decide +kernel
theorem dX9_price_65 : decode cX9_price 65 = .ok (.if_icmp .le 8, 3) := by decide +kernel
theorem dX9_price_68 : decode cX9_price 68 = .ok (.iload 4, 2) := by decide +kernel
theorem dX9_price_70 : decode cX9_price 70 = .ok (.goto 4, 3) := by decide +kernel
theorem dX9_price_73 : decode cX9_price 73 = .ok (.iload_n 2, 1) := by decide +kernel
theorem dX9_price_74 : decode cX9_price 74 = .ok (.istore_n 2, 1) := by decide +kernel
theorem dX9_price_75 : decode cX9_price 75 = .ok (.iload 5, 2) := by decide +kernel
theorem dX9_price_77 : decode cX9_price 77 = .ok (.iload_n 3, 1) := by decide +kernel
theorem dX9_price_78 : decode cX9_price 78 = .ok (.if_icmp .le 8, 3) := by decide +kernel
theorem dX9_price_81 : decode cX9_price 81 = .ok (.iload 5, 2) := by decide +kernel
theorem dX9_price_83 : decode cX9_price 83 = .ok (.goto 4, 3) := by decide +kernel
theorem dX9_price_86 : decode cX9_price 86 = .ok (.iload_n 3, 1) := by decide +kernel
theorem dX9_price_87 : decode cX9_price 87 = .ok (.istore_n 3, 1) := by decide +kernel
theorem dX9_price_88 : decode cX9_price 88 = .ok (.iinc 4 1, 3) := by decide +kernel
theorem dX9_price_91 : decode cX9_price 91 = .ok (.goto (-51), 3) := by decide +kernel
theorem dX9_price_94 : decode cX9_price 94 = .ok (.iload_n 2, 1) := by decide +kernel
theorem dX9_price_95 : decode cX9_price 95 = .ok (.ireturn, 1) := by decide +kernel
theorem dX9_kindFor_0 : decode cX9_kindFor 0 = .ok (.aload_n 0, 1) := by decide +kernel
theorem dX9_kindFor_1 : decode cX9_kindFor 1 = .ok (.iload_n 1, 1) := by decide +kernel
theorem dX9_kindFor_2 : decode cX9_kindFor 2 = .ok (.invokevirtual 66, 3) := by decide +kernel
theorem dX9_kindFor_5 : decode cX9_kindFor 5 = .ok (.ifCond .eq 10, 3) := by decide +kernel
theorem dX9_kindFor_8 : decode cX9_kindFor 8 = .ok (.iload_n 2, 1) := by decide +kernel
theorem dX9_kindFor_9 : decode cX9_kindFor 9 = .ok (.invokestatic 199, 3) := by decide +kernel
theorem dX9_kindFor_12 : decode cX9_kindFor 12 = .ok (.ifCond .ne 10, 3) := by decide +kernel
theorem dX9_kindFor_15 : decode cX9_kindFor 15 = .ok (.aload_n 0, 1) := by decide +kernel
theorem dX9_kindFor_16 : decode cX9_kindFor 16 = .ok (.ldc 37, 2) := by decide +kernel
theorem dX9_kindFor_18 : decode cX9_kindFor 18 = .ok (.invokevirtual 51, 3) := by decide +kernel
theorem dX9_kindFor_21 : decode cX9_kindFor 21 = .ok (.ireturn, 1) := by decide +kernel
theorem dX9_kindFor_22 : decode cX9_kindFor 22 = .ok (.aload_n 0, 1) := by decide +kernel
theorem dX9_kindFor_23 : decode cX9_kindFor 23 = .ok (.iload_n 2, 1) := by decide +kernel
theorem dX9_kindFor_24 : decode cX9_kindFor 24 = .ok (.invokevirtual 171, 3) := by decide +kernel
theorem dX9_kindFor_27 : decode cX9_kindFor 27 = .ok (.ifCond .eq 10, 3) := by decide +kernel
theorem dX9_kindFor_30 : decode cX9_kindFor 30 = .ok (.aload_n 0, 1) := by decide +kernel
theorem dX9_kindFor_31 : decode cX9_kindFor 31 = .ok (.ldc 98, 2) := by decide +kernel
theorem dX9_kindFor_33 : decode cX9_kindFor 33 = .ok (.invokevirtual 51, 3) := by decide +kernel
theorem dX9_kindFor_36 : decode cX9_kindFor 36 = .ok (.ireturn, 1) := by decide +kernel
theorem dX9_kindFor_37 : decode cX9_kindFor 37 = .ok (.aload_n 0, 1) := by decide +kernel
theorem dX9_kindFor_38 : decode cX9_kindFor 38 = .ok (.invokevirtual 179, 3) := by decide +kernel
theorem dX9_kindFor_41 : decode cX9_kindFor 41 = .ok (.iconst 0, 1) := by decide +kernel
theorem dX9_kindFor_42 : decode cX9_kindFor 42 = .ok (.istore_n 3, 1) := by decide +kernel
theorem dX9_kindFor_43 : decode cX9_kindFor 43 = .ok (.iconst (-1), 1) := by decide +kernel
theorem dX9_kindFor_44 : decode cX9_kindFor 44 = .ok (.istore 4, 2) := by decide +kernel
theorem dX9_kindFor_46 : decode cX9_kindFor 46 = .ok (.iconst 0, 1) := by decide +kernel
theorem dX9_kindFor_47 : decode cX9_kindFor 47 = .ok (.istore 5, 2) := by decide +kernel
theorem dX9_kindFor_49 : decode cX9_kindFor 49 = .ok (.iload 5, 2) := by decide +kernel
theorem dX9_kindFor_51 : decode cX9_kindFor 51 = .ok (.bipush 7, 2) := by decide +kernel
theorem dX9_kindFor_53 : decode cX9_kindFor 53 = .ok (.if_icmp .ge 58, 3) := by decide +kernel
theorem dX9_kindFor_56 : decode cX9_kindFor 56 = .ok (.aload_n 0, 1) := by decide +kernel
theorem dX9_kindFor_57 : decode cX9_kindFor 57 = .ok (.getfield 7, 3) := by decide +kernel
theorem dX9_kindFor_60 : decode cX9_kindFor 60 = .ok (.iload_n 1, 1) := by decide +kernel
theorem dX9_kindFor_61 : decode cX9_kindFor 61 = .ok (.iconst 0, 1) := by decide +kernel
theorem dX9_kindFor_62 : decode cX9_kindFor 62 = .ok (.invokestatic 45, 3) := by decide +kernel
theorem dX9_kindFor_65 : decode cX9_kindFor 65 = .ok (.iload 5, 2) := by decide +kernel
theorem dX9_kindFor_67 : decode cX9_kindFor 67 = .ok (.iastore, 1) := by decide +kernel
theorem dX9_kindFor_68 : decode cX9_kindFor 68 = .ok (.aload_n 0, 1) := by decide +kernel
theorem dX9_kindFor_69 : decode cX9_kindFor 69 = .ok (.iload_n 2, 1) := by decide +kernel
theorem dX9_kindFor_70 : decode cX9_kindFor 70 = .ok (.invokevirtual 205, 3) := by decide +kernel
theorem dX9_kindFor_73 : decode cX9_kindFor 73 = .ok (.istore 6, 2) := by decide +kernel
theorem dX9_kindFor_75 : decode cX9_kindFor 75 = .ok (.iload 6, 2) := by decide +kernel
theorem dX9_kindFor_77 : decode cX9_kindFor 77 = .ok (.iload 4, 2) := by decide +kernel
theorem dX9_kindFor_79 : decode cX9_kindFor 79 = .ok (.if_icmp .le 8, 3) := by decide +kernel
theorem dX9_kindFor_82 : decode cX9_kindFor 82 = .ok (.iload 5, 2) := by decide +kernel
theorem dX9_kindFor_84 : decode cX9_kindFor 84 = .ok (.goto 4, 3) := by decide +kernel
theorem dX9_kindFor_87 : decode cX9_kindFor 87 = .ok (.iload_n 3, 1) := by decide +kernel
theorem dX9_kindFor_88 : decode cX9_kindFor 88 = .ok (.istore_n 3, 1) := by decide +kernel
theorem dX9_kindFor_89 : decode cX9_kindFor 89 = .ok (.iload 6, 2) := by decide +kernel
theorem dX9_kindFor_91 : decode cX9_kindFor 91 = .ok (.iload 4, 2) := by decide +kernel
theorem dX9_kindFor_93 : decode cX9_kindFor 93 = .ok (.if_icmp .le 8, 3) := by decide +kernel
theorem dX9_kindFor_96 : decode cX9_kindFor 96 = .ok (.iload 6, 2) := by decide +kernel
theorem dX9_kindFor_98 : decode cX9_kindFor 98 = .ok (.goto 5, 3) := by decide +kernel
theorem dX9_kindFor_101 : decode cX9_kindFor 101 = .ok (.iload 4, 2) := by decide +kernel
theorem dX9_kindFor_103 : decode cX9_kindFor 103 = .ok (.istore 4, 2) := by decide +kernel
theorem dX9_kindFor_105 : decode cX9_kindFor 105 = .ok (.iinc 5 1, 3) := by decide +kernel
theorem dX9_kindFor_108 : decode cX9_kindFor 108 = .ok (.goto (-59), 3) := by decide +kernel
theorem dX9_kindFor_111 : decode cX9_kindFor 111 = .ok (.iload_n 3, 1) := by decide +kernel
theorem dX9_kindFor_112 : decode cX9_kindFor 112 = .ok (.ireturn, 1) := by decide +kernel
theorem dX9_heatFor_0 : decode cX9_heatFor 0 = .ok (.aload_n 0, 1) := by decide +kernel
theorem dX9_heatFor_1 : decode cX9_heatFor 1 = .ok (.iload_n 1, 1) := by decide +kernel
theorem dX9_heatFor_2 : decode cX9_heatFor 2 = .ok (.invokevirtual 66, 3) := by decide +kernel
theorem dX9_heatFor_5 : decode cX9_heatFor 5 = .ok (.ifCond .eq 10, 3) := by decide +kernel
theorem dX9_heatFor_8 : decode cX9_heatFor 8 = .ok (.iload_n 2, 1) := by decide +kernel
theorem dX9_heatFor_9 : decode cX9_heatFor 9 = .ok (.invokestatic 199, 3) := by decide +kernel
theorem dX9_heatFor_12 : decode cX9_heatFor 12 = .ok (.ifCond .ne 10, 3) := by decide +kernel
theorem dX9_heatFor_15 : decode cX9_heatFor 15 = .ok (.aload_n 0, 1) := by decide +kernel
theorem dX9_heatFor_16 : decode cX9_heatFor 16 = .ok (.ldc 37, 2) := by decide +kernel
theorem dX9_heatFor_18 : decode cX9_heatFor 18 = .ok (.invokevirtual 51, 3) := by decide +kernel
theorem dX9_heatFor_21 : decode cX9_heatFor 21 = .ok (.ireturn, 1) := by decide +kernel
theorem dX9_heatFor_22 : decode cX9_heatFor 22 = .ok (.aload_n 0, 1) := by decide +kernel
theorem dX9_heatFor_23 : decode cX9_heatFor 23 = .ok (.iload_n 1, 1) := by decide +kernel
theorem dX9_heatFor_24 : decode cX9_heatFor 24 = .ok (.invokevirtual 202, 3) := by decide +kernel
theorem dX9_heatFor_27 : decode cX9_heatFor 27 = .ok (.ifCond .eq 11, 3) := by decide +kernel
theorem dX9_heatFor_30 : decode cX9_heatFor 30 = .ok (.aload_n 0, 1) := by decide +kernel
theorem dX9_heatFor_31 : decode cX9_heatFor 31 = .ok (.iload_n 2, 1) := by decide +kernel
theorem dX9_heatFor_32 : decode cX9_heatFor 32 = .ok (.invokevirtual 171, 3) := by decide +kernel
theorem dX9_heatFor_35 : decode cX9_heatFor 35 = .ok (.ifCond .eq 10, 3) := by decide +kernel
theorem dX9_heatFor_38 : decode cX9_heatFor 38 = .ok (.aload_n 0, 1) := by decide +kernel
theorem dX9_heatFor_39 : decode cX9_heatFor 39 = .ok (.ldc 98, 2) := by decide +kernel
theorem dX9_heatFor_41 : decode cX9_heatFor 41 = .ok (.invokevirtual 51, 3) := by decide +kernel
theorem dX9_heatFor_44 : decode cX9_heatFor 44 = .ok (.ireturn, 1) := by decide +kernel
theorem dX9_heatFor_45 : decode cX9_heatFor 45 = .ok (.aload_n 0, 1) := by decide +kernel
theorem dX9_heatFor_46 : decode cX9_heatFor 46 = .ok (.invokevirtual 179, 3) := by decide +kernel
theorem dX9_heatFor_49 : decode cX9_heatFor 49 = .ok (.iconst (-1), 1) := by decide +kernel
theorem dX9_heatFor_50 : decode cX9_heatFor 50 = .ok (.istore_n 3, 1) := by decide +kernel
theorem dX9_heatFor_51 : decode cX9_heatFor 51 = .ok (.iconst 0, 1) := by decide +kernel
theorem dX9_heatFor_52 : decode cX9_heatFor 52 = .ok (.istore 4, 2) := by decide +kernel
theorem dX9_heatFor_54 : decode cX9_heatFor 54 = .ok (.iload 4, 2) := by decide +kernel
theorem dX9_heatFor_56 : decode cX9_heatFor 56 = .ok (.bipush 21, 2) := by decide +kernel
theorem dX9_heatFor_58 : decode cX9_heatFor 58 = .ok (.if_icmp .ge 93, 3) := by decide +kernel
theorem dX9_heatFor_61 : decode cX9_heatFor 61 = .ok (.iload_n 3, 1) := by decide +kernel
theorem dX9_heatFor_62 : decode cX9_heatFor 62 = .ok (.ifCond .ge 89, 3) := by decide +kernel
theorem dX9_heatFor_65 : decode cX9_heatFor 65 = .ok (.aload_n 0, 1) := by decide +kernel
theorem dX9_heatFor_66 : decode cX9_heatFor 66 = .ok (.getfield 7, 3) := by decide +kernel
theorem dX9_heatFor_69 : decode cX9_heatFor 69 = .ok (.iconst 4, 1) := by decide +kernel
theorem dX9_heatFor_70 : decode cX9_heatFor 70 = .ok (.iload 4, 2) := by decide +kernel
theorem dX9_heatFor_72 : decode cX9_heatFor 72 = .ok (.iastore, 1) := by decide +kernel
theorem dX9_heatFor_73 : decode cX9_heatFor 73 = .ok (.aload_n 0, 1) := by decide +kernel
theorem dX9_heatFor_74 : decode cX9_heatFor 74 = .ok (.iload_n 1, 1) := by decide +kernel
theorem dX9_heatFor_75 : decode cX9_heatFor 75 = .ok (.invokevirtual 114, 3) := by decide +kernel
theorem dX9_heatFor_78 : decode cX9_heatFor 78 = .ok (.istore 5, 2) := by decide +kernel
theorem dX9_heatFor_80 : decode cX9_heatFor 80 = .ok (.iconst 0, 1) := by decide +kernel
theorem dX9_heatFor_81 : decode cX9_heatFor 81 = .ok (.istore 6, 2) := by decide +kernel
theorem dX9_heatFor_83 : decode cX9_heatFor 83 = .ok (.iload 6, 2) := by decide +kernel
theorem dX9_heatFor_85 : decode cX9_heatFor 85 = .ok (.iload_n 2, 1) := by decide +kernel
theorem dX9_heatFor_86 : decode cX9_heatFor 86 = .ok (.if_icmp .ge 43, 3) := by decide +kernel
theorem dX9_heatFor_89 : decode cX9_heatFor 89 = .ok (.iload 5, 2) := by decide +kernel
theorem dX9_heatFor_91 : decode cX9_heatFor 91 = .ok (.ifCond .ne 38, 3) := by decide +kernel
theorem dX9_heatFor_94 : decode cX9_heatFor 94 = .ok (.aload_n 0, 1) := by decide +kernel
theorem dX9_heatFor_95 : decode cX9_heatFor 95 = .ok (.invokevirtual 166, 3) := by decide +kernel
theorem dX9_heatFor_98 : decode cX9_heatFor 98 = .ok (.aload_n 0, 1) := by decide +kernel
theorem dX9_heatFor_99 : decode cX9_heatFor 99 = .ok (.iload_n 1, 1) := by decide +kernel
theorem dX9_heatFor_100 : decode cX9_heatFor 100 = .ok (.invokevirtual 114, 3) := by decide +kernel
theorem dX9_heatFor_103 : decode cX9_heatFor 103 = .ok (.ifCond .eq 17, 3) := by decide +kernel
theorem dX9_heatFor_106 : decode cX9_heatFor 106 = .ok (.aload_n 0, 1) := by decide +kernel
theorem dX9_heatFor_107 : decode cX9_heatFor 107 = .ok (.iload_n 1, 1) := by decide +kernel
theorem dX9_heatFor_108 : decode cX9_heatFor 108 = .ok (.iconst 4, 1) := by decide +kernel
theorem dX9_heatFor_109 : decode cX9_heatFor 109 = .ok (.invokevirtual 60, 3) := by decide +kernel
theorem dX9_heatFor_112 : decode cX9_heatFor 112 = .ok (.iconst 4, 1) := by decide +kernel
theorem dX9_heatFor_113 : decode cX9_heatFor 113 = .ok (.if_icmp .eq 7, 3) := by decide +kernel
theorem dX9_heatFor_116 : decode cX9_heatFor 116 = .ok (.iconst 1, 1) := by decide +kernel
theorem dX9_heatFor_117 : decode cX9_heatFor 117 = .ok (.goto 4, 3) := by decide +kernel
theorem dX9_heatFor_120 : decode cX9_heatFor 120 = .ok (.iconst 0, 1) := by decide +kernel
theorem dX9_heatFor_121 : decode cX9_heatFor 121 = .ok (.istore 5, 2) := by decide +kernel
theorem dX9_heatFor_123 : decode cX9_heatFor 123 = .ok (.iinc 6 1, 3) := by decide +kernel
theorem dX9_heatFor_126 : decode cX9_heatFor 126 = .ok (.goto (-43), 3) := by decide +kernel
theorem dX9_heatFor_129 : decode cX9_heatFor 129 = .ok (.iload 5, 2) := by decide +kernel
theorem dX9_heatFor_131 : decode cX9_heatFor 131 = .ok (.ifCond .eq 8, 3) := by decide +kernel
theorem dX9_heatFor_134 : decode cX9_heatFor 134 = .ok (.iload 4, 2) := by decide +kernel
theorem dX9_heatFor_136 : decode cX9_heatFor 136 = .ok (.goto 4, 3) := by decide +kernel
theorem dX9_heatFor_139 : decode cX9_heatFor 139 = .ok (.iconst (-1), 1) := by decide +kernel
theorem dX9_heatFor_140 : decode cX9_heatFor 140 = .ok (.istore_n 3, 1) := by decide +kernel
theorem dX9_heatFor_141 : decode cX9_heatFor 141 = .ok (.aload_n 0, 1) := by decide +kernel
theorem dX9_heatFor_142 : decode cX9_heatFor 142 = .ok (.invokevirtual 188, 3) := by decide +kernel
theorem dX9_heatFor_145 : decode cX9_heatFor 145 = .ok (.iinc 4 1, 3) := by decide +kernel
theorem dX9_heatFor_148 : decode cX9_heatFor 148 = .ok (.goto (-94), 3) := by decide +kernel
theorem dX9_heatFor_151 : decode cX9_heatFor 151 = .ok (.iload_n 3, 1) := by decide +kernel
theorem dX9_heatFor_152 : decode cX9_heatFor 152 = .ok (.ifCond .ge 12, 3) := by decide +kernel
theorem dX9_heatFor_155 : decode cX9_heatFor 155 = .ok (.aload_n 0, 1) := by decide +kernel
theorem dX9_heatFor_156 : decode cX9_heatFor 156 = .ok (.ldc 195, 2) := by decide +kernel
theorem dX9_heatFor_158 : decode cX9_heatFor 158 = .ok (.invokevirtual 51, 3) := by decide +kernel
theorem dX9_heatFor_161 : decode cX9_heatFor 161 = .ok (.goto 4, 3) := by decide +kernel
theorem dX9_heatFor_164 : decode cX9_heatFor 164 = .ok (.iload_n 3, 1) := by decide +kernel
theorem dX9_heatFor_165 : decode cX9_heatFor 165 = .ok (.ireturn, 1) := by decide +kernel
theorem dX9_bringsIn_0 : decode cX9_bringsIn 0 = .ok (.aload_n 0, 1) := by decide +kernel
theorem dX9_bringsIn_1 : decode cX9_bringsIn 1 = .ok (.invokevirtual 179, 3) := by decide +kernel
theorem dX9_bringsIn_4 : decode cX9_bringsIn 4 = .ok (.aload_n 0, 1) := by decide +kernel
theorem dX9_bringsIn_5 : decode cX9_bringsIn 5 = .ok (.iload_n 2, 1) := by decide +kernel
theorem dX9_bringsIn_6 : decode cX9_bringsIn 6 = .ok (.invokevirtual 205, 3) := by decide +kernel
theorem dX9_bringsIn_9 : decode cX9_bringsIn 9 = .ok (.istore_n 3, 1) := by decide +kernel
theorem dX9_bringsIn_10 : decode cX9_bringsIn 10 = .ok (.aload_n 0, 1) := by decide +kernel
theorem dX9_bringsIn_11 : decode cX9_bringsIn 11 = .ok (.getfield 7, 3) := by decide +kernel
theorem dX9_bringsIn_14 : decode cX9_bringsIn 14 = .ok (.iload_n 1, 1) := by decide +kernel
theorem dX9_bringsIn_15 : decode cX9_bringsIn 15 = .ok (.iconst 2, 1) := by decide +kernel
theorem dX9_bringsIn_16 : decode cX9_bringsIn 16 = .ok (.invokestatic 134, 3) := by decide +kernel
theorem dX9_bringsIn_19 : decode cX9_bringsIn 19 = .ok (.iconst 0, 1) := by decide +kernel
theorem dX9_bringsIn_20 : decode cX9_bringsIn 20 = .ok (.iastore, 1) := by decide +kernel
theorem dX9_bringsIn_21 : decode cX9_bringsIn 21 = .ok (.iload_n 3, 1) := by decide +kernel
theorem dX9_bringsIn_22 : decode cX9_bringsIn 22 = .ok (.aload_n 0, 1) := by decide +kernel
theorem dX9_bringsIn_23 : decode cX9_bringsIn 23 = .ok (.iload_n 2, 1) := by decide +kernel
theorem dX9_bringsIn_24 : decode cX9_bringsIn 24 = .ok (.invokevirtual 205, 3) := by decide +kernel
theorem dX9_bringsIn_27 : decode cX9_bringsIn 27 = .ok (.isub, 1) := by decide +kernel
theorem dX9_bringsIn_28 : decode cX9_bringsIn 28 = .ok (.ireturn, 1) := by decide +kernel
theorem dX9_brings_0 : decode cX9_brings 0 = .ok (.aload_n 0, 1) := by decide +kernel
theorem dX9_brings_1 : decode cX9_brings 1 = .ok (.iload_n 1, 1) := by decide +kernel
theorem dX9_brings_2 : decode cX9_brings 2 = .ok (.invokevirtual 148, 3) := by decide +kernel
theorem dX9_brings_5 : decode cX9_brings 5 = .ok (.ifCond .eq 10, 3) := by decide +kernel
theorem dX9_brings_8 : decode cX9_brings 8 = .ok (.iload_n 2, 1) := by decide +kernel
theorem dX9_brings_9 : decode cX9_brings 9 = .ok (.invokestatic 199, 3) := by decide +kernel
theorem dX9_brings_12 : decode cX9_brings 12 = .ok (.ifCond .ne 10, 3) := by decide +kernel
theorem dX9_brings_15 : decode cX9_brings 15 = .ok (.aload_n 0, 1) := by decide +kernel
theorem dX9_brings_16 : decode cX9_brings 16 = .ok (.ldc 37, 2) := by decide +kernel
theorem dX9_brings_18 : decode cX9_brings 18 = .ok (.invokevirtual 51, 3) := by decide +kernel
theorem dX9_brings_21 : decode cX9_brings 21 = .ok (.ireturn, 1) := by decide +kernel
theorem dX9_brings_22 : decode cX9_brings 22 = .ok (.aload_n 0, 1) := by decide +kernel
theorem dX9_brings_23 : decode cX9_brings 23 = .ok (.iload_n 2, 1) := by decide +kernel
theorem dX9_brings_24 : decode cX9_brings 24 = .ok (.invokevirtual 171, 3) := by decide +kernel
theorem dX9_brings_27 : decode cX9_brings 27 = .ok (.ifCond .eq 12, 3) := by decide +kernel
theorem dX9_brings_30 : decode cX9_brings 30 = .ok (.aload_n 0, 1) := by decide +kernel
theorem dX9_brings_31 : decode cX9_brings 31 = .ok (.ldc 98, 2) := by decide +kernel
theorem dX9_brings_33 : decode cX9_brings 33 = .ok (.invokevirtual 51, 3) := by decide +kernel
theorem dX9_brings_36 : decode cX9_brings 36 = .ok (.goto 9, 3) := by decide +kernel
theorem dX9_brings_39 : decode cX9_brings 39 = .ok (.aload_n 0, 1) := by decide +kernel
theorem dX9_brings_40 : decode cX9_brings 40 = .ok (.iload_n 1, 1) := by decide +kernel
theorem dX9_brings_41 : decode cX9_brings 41 = .ok (.iload_n 2, 1) := by decide +kernel
theorem dX9_brings_42 : decode cX9_brings 42 = .ok (.invokevirtual 210, 3) := by decide +kernel
theorem dX9_brings_45 : decode cX9_brings 45 = .ok (.ireturn, 1) := by decide +kernel
theorem dX9_best_0 : decode cX9_best 0 = .ok (.iload_n 1, 1) := by decide +kernel
theorem dX9_best_1 : decode cX9_best 1 = .ok (.invokestatic 199, 3) := by decide +kernel
theorem dX9_best_4 : decode cX9_best 4 = .ok (.ifCond .ne 10, 3) := by decide +kernel
theorem dX9_best_7 : decode cX9_best 7 = .ok (.aload_n 0, 1) := by decide +kernel
theorem dX9_best_8 : decode cX9_best 8 = .ok (.ldc 37, 2) := by decide +kernel
theorem dX9_best_10 : decode cX9_best 10 = .ok (.invokevirtual 51, 3) := by decide +kernel
theorem dX9_best_13 : decode cX9_best 13 = .ok (.ireturn, 1) := by decide +kernel
theorem dX9_best_14 : decode cX9_best 14 = .ok (.aload_n 0, 1) := by decide +kernel
theorem dX9_best_15 : decode cX9_best 15 = .ok (.iload_n 1, 1) := by decide +kernel
theorem dX9_best_16 : decode cX9_best 16 = .ok (.invokevirtual 171, 3) := by decide +kernel
theorem dX9_best_19 : decode cX9_best 19 = .ok (.ifCond .eq 10, 3) := by decide +kernel
theorem dX9_best_22 : decode cX9_best 22 = .ok (.aload_n 0, 1) := by decide +kernel
theorem dX9_best_23 : decode cX9_best 23 = .ok (.ldc 98, 2) := by decide +kernel
theorem dX9_best_25 : decode cX9_best 25 = .ok (.invokevirtual 51, 3) := by decide +kernel
theorem dX9_best_28 : decode cX9_best 28 = .ok (.ireturn, 1) := by decide +kernel
theorem dX9_best_29 : decode cX9_best 29 = .ok (.iconst (-1), 1) := by decide +kernel
theorem dX9_best_30 : decode cX9_best 30 = .ok (.istore_n 2, 1) := by decide +kernel
theorem dX9_best_31 : decode cX9_best 31 = .ok (.iconst 0, 1) := by decide +kernel
theorem dX9_best_32 : decode cX9_best 32 = .ok (.istore_n 3, 1) := by decide +kernel
theorem dX9_best_33 : decode cX9_best 33 = .ok (.iconst 0, 1) := by decide +kernel
theorem dX9_best_34 : decode cX9_best 34 = .ok (.istore 4, 2) := by decide +kernel
theorem dX9_best_36 : decode cX9_best 36 = .ok (.iload 4, 2) := by decide +kernel
theorem dX9_best_38 : decode cX9_best 38 = .ok (.aload_n 0, 1) := by decide +kernel
theorem dX9_best_39 : decode cX9_best 39 = .ok (.getfield 7, 3) := by decide +kernel
theorem dX9_best_42 : decode cX9_best 42 = .ok (.iconst 2, 1) := by decide +kernel
theorem dX9_best_43 : decode cX9_best 43 = .ok (.iaload, 1) := by decide +kernel
theorem dX9_best_44 : decode cX9_best 44 = .ok (.if_icmp .ge 34, 3) := by decide +kernel
theorem dX9_best_47 : decode cX9_best 47 = .ok (.aload_n 0, 1) := by decide +kernel
theorem dX9_best_48 : decode cX9_best 48 = .ok (.iload 4, 2) := by decide +kernel
theorem dX9_best_50 : decode cX9_best 50 = .ok (.iload_n 1, 1) := by decide +kernel
theorem dX9_best_51 : decode cX9_best 51 = .ok (.invokevirtual 210, 3) := by decide +kernel
theorem dX9_best_54 : decode cX9_best 54 = .ok (.istore 5, 2) := by decide +kernel
theorem dX9_best_56 : decode cX9_best 56 = .ok (.iload_n 2, 1) := by decide +kernel
theorem dX9_best_57 : decode cX9_best 57 = .ok (.ifCond .lt 9, 3) := by decide +kernel
theorem dX9_best_60 : decode cX9_best 60 = .ok (.iload 5, 2) := by decide +kernel
theorem dX9_best_62 : decode cX9_best 62 = .ok (.iload_n 3, 1) := by decide +kernel
theorem dX9_best_63 : decode cX9_best 63 = .ok (.if_icmp .le 9, 3) := by decide +kernel
theorem dX9_best_66 : decode cX9_best 66 = .ok (.iload 4, 2) := by decide +kernel
theorem dX9_best_68 : decode cX9_best 68 = .ok (.istore_n 2, 1) := by decide +kernel
theorem dX9_best_69 : decode cX9_best 69 = .ok (.iload 5, 2) := by decide +kernel
theorem dX9_best_71 : decode cX9_best 71 = .ok (.istore_n 3, 1) := by decide +kernel
theorem dX9_best_72 : decode cX9_best 72 = .ok (.iinc 4 1, 3) := by decide +kernel
theorem dX9_best_75 : decode cX9_best 75 = .ok (.goto (-39), 3) := by decide +kernel
theorem dX9_best_78 : decode cX9_best 78 = .ok (.iload_n 2, 1) := by decide +kernel
theorem dX9_best_79 : decode cX9_best 79 = .ok (.ifCond .ge 12, 3) := by decide +kernel
theorem dX9_best_82 : decode cX9_best 82 = .ok (.aload_n 0, 1) := by decide +kernel
theorem dX9_best_83 : decode cX9_best 83 = .ok (.ldc 195, 2) := by decide +kernel
theorem dX9_best_85 : decode cX9_best 85 = .ok (.invokevirtual 51, 3) := by decide +kernel
theorem dX9_best_88 : decode cX9_best 88 = .ok (.goto 4, 3) := by decide +kernel
theorem dX9_best_91 : decode cX9_best 91 = .ok (.iload_n 2, 1) := by decide +kernel
theorem dX9_best_92 : decode cX9_best 92 = .ok (.ireturn, 1) := by decide +kernel
theorem dX9_left_0 : decode cX9_left 0 = .ok (.iload_n 1, 1) := by decide +kernel
theorem dX9_left_1 : decode cX9_left 1 = .ok (.invokestatic 199, 3) := by decide +kernel
theorem dX9_left_4 : decode cX9_left 4 = .ok (.ifCond .ne 10, 3) := by decide +kernel
theorem dX9_left_7 : decode cX9_left 7 = .ok (.aload_n 0, 1) := by decide +kernel
theorem dX9_left_8 : decode cX9_left 8 = .ok (.ldc 37, 2) := by decide +kernel
theorem dX9_left_10 : decode cX9_left 10 = .ok (.invokevirtual 51, 3) := by decide +kernel
theorem dX9_left_13 : decode cX9_left 13 = .ok (.ireturn, 1) := by decide +kernel
theorem dX9_left_14 : decode cX9_left 14 = .ok (.aload_n 0, 1) := by decide +kernel
theorem dX9_left_15 : decode cX9_left 15 = .ok (.iload_n 1, 1) := by decide +kernel
theorem dX9_left_16 : decode cX9_left 16 = .ok (.invokevirtual 171, 3) := by decide +kernel
theorem dX9_left_19 : decode cX9_left 19 = .ok (.ifCond .eq 10, 3) := by decide +kernel
theorem dX9_left_22 : decode cX9_left 22 = .ok (.aload_n 0, 1) := by decide +kernel
theorem dX9_left_23 : decode cX9_left 23 = .ok (.ldc 98, 2) := by decide +kernel
theorem dX9_left_25 : decode cX9_left 25 = .ok (.invokevirtual 51, 3) := by decide +kernel
theorem dX9_left_28 : decode cX9_left 28 = .ok (.ireturn, 1) := by decide +kernel
theorem dX9_left_29 : decode cX9_left 29 = .ok (.aload_n 0, 1) := by decide +kernel
theorem dX9_left_30 : decode cX9_left 30 = .ok (.invokevirtual 179, 3) := by decide +kernel
theorem dX9_left_33 : decode cX9_left 33 = .ok (.aload_n 0, 1) := by decide +kernel
theorem dX9_left_34 : decode cX9_left 34 = .ok (.iload_n 1, 1) := by decide +kernel
theorem dX9_left_35 : decode cX9_left 35 = .ok (.invokevirtual 174, 3) := by decide +kernel
theorem dX9_left_38 : decode cX9_left 38 = .ok (.iconst (-1), 1) := by decide +kernel
theorem dX9_left_39 : decode cX9_left 39 = .ok (.istore_n 2, 1) := by decide +kernel
theorem dX9_left_40 : decode cX9_left 40 = .ok (.iconst 0, 1) := by decide +kernel
theorem dX9_left_41 : decode cX9_left 41 = .ok (.istore_n 3, 1) := by decide +kernel
theorem dX9_left_42 : decode cX9_left 42 = .ok (.iload_n 3, 1) := by decide +kernel
theorem dX9_left_43 : decode cX9_left 43 = .ok (.aload_n 0, 1) := by decide +kernel
theorem dX9_left_44 : decode cX9_left 44 = .ok (.getfield 7, 3) := by decide +kernel
theorem dX9_left_47 : decode cX9_left 47 = .ok (.iconst 1, 1) := by decide +kernel
theorem dX9_left_48 : decode cX9_left 48 = .ok (.iaload, 1) := by decide +kernel
theorem dX9_left_49 : decode cX9_left 49 = .ok (.if_icmp .ge 44, 3) := by decide +kernel
theorem dX9_left_52 : decode cX9_left 52 = .ok (.aload_n 0, 1) := by decide +kernel
theorem dX9_left_53 : decode cX9_left 53 = .ok (.iload_n 3, 1) := by decide +kernel
theorem dX9_left_54 : decode cX9_left 54 = .ok (.iconst 4, 1) := by decide +kernel
theorem dX9_left_55 : decode cX9_left 55 = .ok (.invokevirtual 60, 3) := by decide +kernel
theorem dX9_left_58 : decode cX9_left 58 = .ok (.iconst 4, 1) := by decide +kernel
theorem dX9_left_59 : decode cX9_left 59 = .ok (.if_icmp .eq 26, 3) := by decide +kernel
theorem dX9_left_62 : decode cX9_left 62 = .ok (.iload_n 2, 1) := by decide +kernel
theorem dX9_left_63 : decode cX9_left 63 = .ok (.ifCond .lt 18, 3) := by decide +kernel
theorem dX9_left_66 : decode cX9_left 66 = .ok (.aload_n 0, 1) := by decide +kernel
theorem dX9_left_67 : decode cX9_left 67 = .ok (.iload_n 3, 1) := by decide +kernel
theorem dX9_left_68 : decode cX9_left 68 = .ok (.iconst 1, 1) := by decide +kernel
theorem dX9_left_69 : decode cX9_left 69 = .ok (.invokevirtual 60, 3) := by decide +kernel
theorem dX9_left_72 : decode cX9_left 72 = .ok (.aload_n 0, 1) := by decide +kernel
theorem dX9_left_73 : decode cX9_left 73 = .ok (.iload_n 2, 1) := by decide +kernel
theorem dX9_left_74 : decode cX9_left 74 = .ok (.iconst 1, 1) := by decide +kernel
theorem dX9_left_75 : decode cX9_left 75 = .ok (.invokevirtual 60, 3) := by decide +kernel
theorem dX9_left_78 : decode cX9_left 78 = .ok (.if_icmp .le 7, 3) := by decide +kernel
theorem dX9_left_81 : decode cX9_left 81 = .ok (.iload_n 3, 1) := by decide +kernel
theorem dX9_left_82 : decode cX9_left 82 = .ok (.goto 4, 3) := by decide +kernel
theorem dX9_left_85 : decode cX9_left 85 = .ok (.iload_n 2, 1) := by decide +kernel
theorem dX9_left_86 : decode cX9_left 86 = .ok (.istore_n 2, 1) := by decide +kernel
theorem dX9_left_87 : decode cX9_left 87 = .ok (.iinc 3 1, 3) := by decide +kernel
theorem dX9_left_90 : decode cX9_left 90 = .ok (.goto (-48), 3) := by decide +kernel
theorem dX9_left_93 : decode cX9_left 93 = .ok (.aload_n 0, 1) := by decide +kernel
theorem dX9_left_94 : decode cX9_left 94 = .ok (.invokevirtual 188, 3) := by decide +kernel
theorem dX9_left_97 : decode cX9_left 97 = .ok (.iload_n 2, 1) := by decide +kernel
theorem dX9_left_98 : decode cX9_left 98 = .ok (.ifCond .ge 12, 3) := by decide +kernel
theorem dX9_left_101 : decode cX9_left 101 = .ok (.aload_n 0, 1) := by decide +kernel
theorem dX9_left_102 : decode cX9_left 102 = .ok (.ldc 195, 2) := by decide +kernel
theorem dX9_left_104 : decode cX9_left 104 = .ok (.invokevirtual 51, 3) := by decide +kernel
theorem dX9_left_107 : decode cX9_left 107 = .ok (.goto 4, 3) := by decide +kernel
theorem dX9_left_110 : decode cX9_left 110 = .ok (.iload_n 2, 1) := by decide +kernel
theorem dX9_left_111 : decode cX9_left 111 = .ok (.ireturn, 1) := by decide +kernel
theorem dX9_boys_0 : decode cX9_boys 0 = .ok (.iload_n 1, 1) := by decide +kernel
theorem dX9_boys_1 : decode cX9_boys 1 = .ok (.i2l, 1) := by decide +kernel
theorem dX9_boys_2 : decode cX9_boys 2 = .ok (.lconst 1, 1) := by decide +kernel
theorem dX9_boys_3 : decode cX9_boys 3 = .ok (.ldc2_w 213, 3) := by decide +kernel
theorem dX9_boys_6 : decode cX9_boys 6 = .ok (.invokestatic 38, 3) := by decide +kernel
theorem dX9_boys_9 : decode cX9_boys 9 = .ok (.ifCond .ne 10, 3) := by decide +kernel
theorem dX9_boys_12 : decode cX9_boys 12 = .ok (.aload_n 0, 1) := by decide +kernel
theorem dX9_boys_13 : decode cX9_boys 13 = .ok (.ldc 37, 2) := by decide +kernel
theorem dX9_boys_15 : decode cX9_boys 15 = .ok (.invokevirtual 51, 3) := by decide +kernel
theorem dX9_boys_18 : decode cX9_boys 18 = .ok (.ireturn, 1) := by decide +kernel
theorem dX9_boys_19 : decode cX9_boys 19 = .ok (.aload_n 0, 1) := by decide +kernel
theorem dX9_boys_20 : decode cX9_boys 20 = .ok (.getfield 7, 3) := by decide +kernel
theorem dX9_boys_23 : decode cX9_boys 23 = .ok (.iconst 1, 1) := by decide +kernel
theorem dX9_boys_24 : decode cX9_boys 24 = .ok (.iaload, 1) := by decide +kernel
theorem dX9_boys_25 : decode cX9_boys 25 = .ok (.ifCond .ne 10, 3) := by decide +kernel
theorem dX9_boys_28 : decode cX9_boys 28 = .ok (.aload_n 0, 1) := by decide +kernel
theorem dX9_boys_29 : decode cX9_boys 29 = .ok (.ldc 98, 2) := by decide +kernel
theorem dX9_boys_31 : decode cX9_boys 31 = .ok (.invokevirtual 51, 3) := by decide +kernel
theorem dX9_boys_34 : decode cX9_boys 34 = .ok (.ireturn, 1) := by decide +kernel
theorem dX9_boys_35 : decode cX9_boys 35 = .ok (.iconst 0, 1) := by decide +kernel
theorem dX9_boys_36 : decode cX9_boys 36 = .ok (.istore_n 2, 1) := by decide +kernel
theorem dX9_boys_37 : decode cX9_boys 37 = .ok (.iconst 0, 1) := by decide +kernel
theorem dX9_boys_38 : decode cX9_boys 38 = .ok (.istore_n 3, 1) := by decide +kernel
theorem dX9_boys_39 : decode cX9_boys 39 = .ok (.iload_n 3, 1) := by decide +kernel
theorem dX9_boys_40 : decode cX9_boys 40 = .ok (.iload_n 1, 1) := by decide +kernel
theorem dX9_boys_41 : decode cX9_boys 41 = .ok (.if_icmp .ge 61, 3) := by decide +kernel
theorem dX9_boys_44 : decode cX9_boys 44 = .ok (.aload_n 0, 1) := by decide +kernel
theorem dX9_boys_45 : decode cX9_boys 45 = .ok (.invokevirtual 215, 3) := by decide +kernel
theorem dX9_boys_48 : decode cX9_boys 48 = .ok (.aload_n 0, 1) := by decide +kernel
theorem dX9_boys_49 : decode cX9_boys 49 = .ok (.getfield 7, 3) := by decide +kernel
theorem dX9_boys_52 : decode cX9_boys 52 = .ok (.iconst 1, 1) := by decide +kernel
theorem dX9_boys_53 : decode cX9_boys 53 = .ok (.iaload, 1) := by decide +kernel
theorem dX9_boys_54 : decode cX9_boys 54 = .ok (.irem, 1) := by decide +kernel
theorem dX9_boys_55 : decode cX9_boys 55 = .ok (.istore 4, 2) := by decide +kernel
theorem dX9_boys_57 : decode cX9_boys 57 = .ok (.aload_n 0, 1) := by decide +kernel
theorem dX9_boys_58 : decode cX9_boys 58 = .ok (.iload 4, 2) := by decide +kernel
theorem dX9_boys_60 : decode cX9_boys 60 = .ok (.iconst 4, 1) := by decide +kernel
theorem dX9_boys_61 : decode cX9_boys 61 = .ok (.invokevirtual 60, 3) := by decide +kernel
theorem dX9_boys_64 : decode cX9_boys 64 = .ok (.iconst 3, 1) := by decide +kernel
theorem dX9_boys_65 : decode cX9_boys 65 = .ok (.if_icmp .ne 31, 3) := by decide +kernel
theorem dX9_boys_68 : decode cX9_boys 68 = .ok (.aload_n 0, 1) := by decide +kernel
theorem dX9_boys_69 : decode cX9_boys 69 = .ok (.iload 4, 2) := by decide +kernel
theorem dX9_boys_71 : decode cX9_boys 71 = .ok (.iconst 1, 1) := by decide +kernel
theorem dX9_boys_72 : decode cX9_boys 72 = .ok (.invokevirtual 60, 3) := by decide +kernel
theorem dX9_boys_75 : decode cX9_boys 75 = .ok (.ifCond .le 21, 3) := by decide +kernel
theorem dX9_boys_78 : decode cX9_boys 78 = .ok (.aload_n 0, 1) := by decide +kernel
theorem dX9_boys_79 : decode cX9_boys 79 = .ok (.getfield 7, 3) := by decide +kernel
theorem dX9_boys_82 : decode cX9_boys 82 = .ok (.iload 4, 2) := by decide +kernel
theorem dX9_boys_84 : decode cX9_boys 84 = .ok (.iconst 1, 1) := by decide +kernel
theorem dX9_boys_85 : decode cX9_boys 85 = .ok (.invokestatic 45, 3) := by decide +kernel
theorem dX9_boys_88 : decode cX9_boys 88 = .ok (.dup2, 1) := by decide +kernel
theorem dX9_boys_89 : decode cX9_boys 89 = .ok (.iaload, 1) := by decide +kernel
theorem dX9_boys_90 : decode cX9_boys 90 = .ok (.iconst 1, 1) := by decide +kernel
theorem dX9_boys_91 : decode cX9_boys 91 = .ok (.isub, 1) := by decide +kernel
theorem dX9_boys_92 : decode cX9_boys 92 = .ok (.iastore, 1) := by decide +kernel
theorem dX9_boys_93 : decode cX9_boys 93 = .ok (.iinc 2 1, 3) := by decide +kernel
theorem dX9_boys_96 : decode cX9_boys 96 = .ok (.iinc 3 1, 3) := by decide +kernel
theorem dX9_boys_99 : decode cX9_boys 99 = .ok (.goto (-60), 3) := by decide +kernel
theorem dX9_boys_102 : decode cX9_boys 102 = .ok (.iload_n 2, 1) := by decide +kernel
theorem dX9_boys_103 : decode cX9_boys 103 = .ok (.ireturn, 1) := by decide +kernel
theorem dX9_seed_0 : decode cX9_seed 0 = .ok (.aload_n 0, 1) := by decide +kernel
theorem dX9_seed_1 : decode cX9_seed 1 = .ok (.getfield 7, 3) := by decide +kernel
theorem dX9_seed_4 : decode cX9_seed 4 = .ok (.iconst 3, 1) := by decide +kernel
theorem dX9_seed_5 : decode cX9_seed 5 = .ok (.iaload, 1) := by decide +kernel
theorem dX9_seed_6 : decode cX9_seed 6 = .ok (.istore_n 2, 1) := by decide +kernel
theorem dX9_seed_7 : decode cX9_seed 7 = .ok (.aload_n 0, 1) := by decide +kernel
theorem dX9_seed_8 : decode cX9_seed 8 = .ok (.getfield 7, 3) := by decide +kernel
theorem dX9_seed_11 : decode cX9_seed 11 = .ok (.iconst 3, 1) := by decide +kernel
theorem dX9_seed_12 : decode cX9_seed 12 = .ok (.iload_n 1, 1) := by decide +kernel
theorem dX9_seed_13 : decode cX9_seed 13 = .ok (.iastore, 1) := by decide +kernel
theorem dX9_seed_14 : decode cX9_seed 14 = .ok (.iload_n 2, 1) := by decide +kernel
theorem dX9_seed_15 : decode cX9_seed 15 = .ok (.ireturn, 1) := by decide +kernel
theorem dX9_feed_0 : decode cX9_feed 0 = .ok (.iload_n 2, 1) := by decide +kernel
theorem dX9_feed_1 : decode cX9_feed 1 = .ok (.i2l, 1) := by decide +kernel
theorem dX9_feed_2 : decode cX9_feed 2 = .ok (.lconst 1, 1) := by decide +kernel
theorem dX9_feed_3 : decode cX9_feed 3 = .ok (.ldc2_w 96, 3) := by decide +kernel
theorem dX9_feed_6 : decode cX9_feed 6 = .ok (.invokestatic 38, 3) := by decide +kernel
theorem dX9_feed_9 : decode cX9_feed 9 = .ok (.ifCond .ne 10, 3) := by decide +kernel
theorem dX9_feed_12 : decode cX9_feed 12 = .ok (.aload_n 0, 1) := by decide +kernel
theorem dX9_feed_13 : decode cX9_feed 13 = .ok (.ldc 37, 2) := by decide +kernel
theorem dX9_feed_15 : decode cX9_feed 15 = .ok (.invokevirtual 51, 3) := by decide +kernel
theorem dX9_feed_18 : decode cX9_feed 18 = .ok (.ireturn, 1) := by decide +kernel
theorem dX9_feed_19 : decode cX9_feed 19 = .ok (.aload_n 0, 1) := by decide +kernel
theorem dX9_feed_20 : decode cX9_feed 20 = .ok (.getfield 218, 3) := by decide +kernel
theorem dX9_feed_23 : decode cX9_feed 23 = .ok (.iload_n 2, 1) := by decide +kernel
theorem dX9_feed_24 : decode cX9_feed 24 = .ok (.iadd, 1) := by decide +kernel
theorem dX9_feed_25 : decode cX9_feed 25 = .ok (.bipush 120, 2) := by decide +kernel
theorem dX9_feed_27 : decode cX9_feed 27 = .ok (.if_icmp .le 10, 3) := by decide +kernel
theorem dX9_feed_30 : decode cX9_feed 30 = .ok (.aload_n 0, 1) := by decide +kernel
theorem dX9_feed_31 : decode cX9_feed 31 = .ok (.ldc 55, 2) := by decide +kernel
theorem dX9_feed_33 : decode cX9_feed 33 = .ok (.invokevirtual 51, 3) := by decide +kernel
theorem dX9_feed_36 : decode cX9_feed 36 = .ok (.ireturn, 1) := by decide +kernel
theorem dX9_feed_37 : decode cX9_feed 37 = .ok (.iload_n 2, 1) := by decide +kernel
theorem dX9_feed_38 : decode cX9_feed 38 = .ok (.iconst 1, 1) := by decide +kernel
theorem dX9_feed_39 : decode cX9_feed 39 = .ok (.isub, 1) := by decide +kernel
theorem dX9_feed_40 : decode cX9_feed 40 = .ok (.istore_n 3, 1) := by decide +kernel
theorem dX9_feed_41 : decode cX9_feed 41 = .ok (.iload_n 3, 1) := by decide +kernel
theorem dX9_feed_42 : decode cX9_feed 42 = .ok (.ifCond .lt 38, 3) := by decide +kernel
theorem dX9_feed_45 : decode cX9_feed 45 = .ok (.aload_n 0, 1) := by decide +kernel
theorem dX9_feed_46 : decode cX9_feed 46 = .ok (.getfield 22, 3) := by decide +kernel
theorem dX9_feed_49 : decode cX9_feed 49 = .ok (.aload_n 0, 1) := by decide +kernel
theorem dX9_feed_50 : decode cX9_feed 50 = .ok (.getfield 218, 3) := by decide +kernel
theorem dX9_feed_53 : decode cX9_feed 53 = .ok (.iload_n 1, 1) := by decide +kernel
theorem dX9_feed_54 : decode cX9_feed 54 = .ok (.bipush 8, 2) := by decide +kernel
theorem dX9_feed_56 : decode cX9_feed 56 = .ok (.iload_n 3, 1) := by decide +kernel
theorem dX9_feed_57 : decode cX9_feed 57 = .ok (.imul, 1) := by decide +kernel
theorem dX9_feed_58 : decode cX9_feed 58 = .ok (.ishr, 1) := by decide +kernel
theorem dX9_feed_59 : decode cX9_feed 59 = .ok (.sipush 255, 3) := by decide +kernel
theorem dX9_feed_62 : decode cX9_feed 62 = .ok (.iand, 1) := by decide +kernel
theorem dX9_feed_63 : decode cX9_feed 63 = .ok (.iastore, 1) := by decide +kernel
theorem dX9_feed_64 : decode cX9_feed 64 = .ok (.aload_n 0, 1) := by decide +kernel
theorem dX9_feed_65 : decode cX9_feed 65 = .ok (.dup, 1) := by decide +kernel
theorem dX9_feed_66 : decode cX9_feed 66 = .ok (.getfield 218, 3) := by decide +kernel
theorem dX9_feed_69 : decode cX9_feed 69 = .ok (.iconst 1, 1) := by decide +kernel
theorem dX9_feed_70 : decode cX9_feed 70 = .ok (.iadd, 1) := by decide +kernel
theorem dX9_feed_71 : decode cX9_feed 71 = .ok (.putfield 218, 3) := by decide +kernel
theorem dX9_feed_74 : decode cX9_feed 74 = .ok (.iinc 3 (-1), 3) := by decide +kernel
theorem dX9_feed_77 : decode cX9_feed 77 = .ok (.goto (-36), 3) := by decide +kernel
theorem dX9_feed_80 : decode cX9_feed 80 = .ok (.aload_n 0, 1) := by decide +kernel
theorem dX9_feed_81 : decode cX9_feed 81 = .ok (.getfield 218, 3) := by decide +kernel
theorem dX9_feed_84 : decode cX9_feed 84 = .ok (.ireturn, 1) := by decide +kernel
theorem dX9_wipe_0 : decode cX9_wipe 0 = .ok (.aload_n 0, 1) := by decide +kernel
theorem dX9_wipe_1 : decode cX9_wipe 1 = .ok (.getfield 218, 3) := by decide +kernel
theorem dX9_wipe_4 : decode cX9_wipe 4 = .ok (.istore_n 1, 1) := by decide +kernel
theorem dX9_wipe_5 : decode cX9_wipe 5 = .ok (.aload_n 0, 1) := by decide +kernel
theorem dX9_wipe_6 : decode cX9_wipe 6 = .ok (.iconst 0, 1) := by decide +kernel
theorem dX9_wipe_7 : decode cX9_wipe 7 = .ok (.putfield 218, 3) := by decide +kernel
theorem dX9_wipe_10 : decode cX9_wipe 10 = .ok (.iload_n 1, 1) := by decide +kernel
theorem dX9_wipe_11 : decode cX9_wipe 11 = .ok (.ireturn, 1) := by decide +kernel
theorem dX9_byteAt_0 : decode cX9_byteAt 0 = .ok (.iload_n 1, 1) := by decide +kernel
theorem dX9_byteAt_1 : decode cX9_byteAt 1 = .ok (.aload_n 0, 1) := by decide +kernel
theorem dX9_byteAt_2 : decode cX9_byteAt 2 = .ok (.getfield 218, 3) := by decide +kernel
theorem dX9_byteAt_5 : decode cX9_byteAt 5 = .ok (.if_icmp .ge 12, 3) := by decide +kernel
theorem dX9_byteAt_8 : decode cX9_byteAt 8 = .ok (.aload_n 0, 1) := by decide +kernel
theorem dX9_byteAt_9 : decode cX9_byteAt 9 = .ok (.getfield 22, 3) := by decide +kernel
theorem dX9_byteAt_12 : decode cX9_byteAt 12 = .ok (.iload_n 1, 1) := by decide +kernel
theorem dX9_byteAt_13 : decode cX9_byteAt 13 = .ok (.iaload, 1) := by decide +kernel
theorem dX9_byteAt_14 : decode cX9_byteAt 14 = .ok (.goto 4, 3) := by decide +kernel
theorem dX9_byteAt_17 : decode cX9_byteAt 17 = .ok (.iconst (-1), 1) := by decide +kernel
theorem dX9_byteAt_18 : decode cX9_byteAt 18 = .ok (.ireturn, 1) := by decide +kernel
theorem dX9_isLetter_0 : decode cX9_isLetter 0 = .ok (.iload_n 0, 1) := by decide +kernel
theorem dX9_isLetter_1 : decode cX9_isLetter 1 = .ok (.i2l, 1) := by decide +kernel
theorem dX9_isLetter_2 : decode cX9_isLetter 2 = .ok (.ldc2_w 222, 3) := by decide +kernel
theorem dX9_isLetter_5 : decode cX9_isLetter 5 = .ok (.ldc2_w 224, 3) := by decide +kernel
theorem dX9_isLetter_8 : decode cX9_isLetter 8 = .ok (.invokestatic 38, 3) := by decide +kernel
theorem dX9_isLetter_11 : decode cX9_isLetter 11 = .ok (.ireturn, 1) := by decide +kernel
theorem dX9_isDigit_0 : decode cX9_isDigit 0 = .ok (.iload_n 0, 1) := by decide +kernel
theorem dX9_isDigit_1 : decode cX9_isDigit 1 = .ok (.i2l, 1) := by decide +kernel
theorem dX9_isDigit_2 : decode cX9_isDigit 2 = .ok (.ldc2_w 226, 3) := by decide +kernel
theorem dX9_isDigit_5 : decode cX9_isDigit 5 = .ok (.ldc2_w 228, 3) := by decide +kernel
theorem dX9_isDigit_8 : decode cX9_isDigit 8 = .ok (.invokestatic 38, 3) := by decide +kernel
theorem dX9_isDigit_11 : decode cX9_isDigit 11 = .ok (.ireturn, 1) := by decide +kernel
theorem dX9_token_0 : decode cX9_token 0 = .ok (.aload_n 0, 1) := by decide +kernel
theorem dX9_token_1 : decode cX9_token 1 = .ok (.aload_n 0, 1) := by decide +kernel
theorem dX9_token_2 : decode cX9_token 2 = .ok (.getfield 230, 3) := by decide +kernel
theorem dX9_token_5 : decode cX9_token 5 = .ok (.putfield 233, 3) := by decide +kernel
theorem dX9_token_8 : decode cX9_token 8 = .ok (.aload_n 0, 1) := by decide +kernel
theorem dX9_token_9 : decode cX9_token 9 = .ok (.aload_n 0, 1) := by decide +kernel
theorem dX9_token_10 : decode cX9_token 10 = .ok (.getfield 233, 3) := by decide +kernel
theorem dX9_token_13 : decode cX9_token 13 = .ok (.invokevirtual 236, 3) := by decide +kernel
theorem dX9_token_16 : decode cX9_token 16 = .ok (.bipush 32, 2) := by decide +kernel
theorem dX9_token_18 : decode cX9_token 18 = .ok (.if_icmp .ne 16, 3) := by decide +kernel
theorem dX9_token_21 : decode cX9_token 21 = .ok (.aload_n 0, 1) := by decide +kernel
theorem dX9_token_22 : decode cX9_token 22 = .ok (.dup, 1) := by decide +kernel
theorem dX9_token_23 : decode cX9_token 23 = .ok (.getfield 233, 3) := by decide +kernel
theorem dX9_token_26 : decode cX9_token 26 = .ok (.iconst 1, 1) := by decide +kernel
theorem dX9_token_27 : decode cX9_token 27 = .ok (.iadd, 1) := by decide +kernel
theorem dX9_token_28 : decode cX9_token 28 = .ok (.putfield 233, 3) := by decide +kernel
theorem dX9_token_31 : decode cX9_token 31 = .ok (.goto (-23), 3) := by decide +kernel
theorem dX9_token_34 : decode cX9_token 34 = .ok (.aload_n 0, 1) := by decide +kernel
theorem dX9_token_35 : decode cX9_token 35 = .ok (.aload_n 0, 1) := by decide +kernel
theorem dX9_token_36 : decode cX9_token 36 = .ok (.getfield 233, 3) := by decide +kernel
theorem dX9_token_39 : decode cX9_token 39 = .ok (.invokevirtual 236, 3) := by decide +kernel
theorem dX9_token_42 : decode cX9_token 42 = .ok (.invokestatic 239, 3) := by decide +kernel
theorem dX9_token_45 : decode cX9_token 45 = .ok (.istore_n 1, 1) := by decide +kernel
theorem dX9_token_46 : decode cX9_token 46 = .ok (.aload_n 0, 1) := by decide +kernel
theorem dX9_token_47 : decode cX9_token 47 = .ok (.aload_n 0, 1) := by decide +kernel
theorem dX9_token_48 : decode cX9_token 48 = .ok (.getfield 233, 3) := by decide +kernel
theorem dX9_token_51 : decode cX9_token 51 = .ok (.invokevirtual 236, 3) := by decide +kernel
theorem dX9_token_54 : decode cX9_token 54 = .ok (.invokestatic 242, 3) := by decide +kernel
theorem dX9_token_57 : decode cX9_token 57 = .ok (.istore_n 2, 1) := by decide +kernel
theorem dX9_token_58 : decode cX9_token 58 = .ok (.aload_n 0, 1) := by decide +kernel
theorem dX9_token_59 : decode cX9_token 59 = .ok (.aload_n 0, 1) := by decide +kernel
theorem dX9_token_60 : decode cX9_token 60 = .ok (.getfield 233, 3) := by decide +kernel
theorem dX9_token_63 : decode cX9_token 63 = .ok (.aload_n 0, 1) := by decide +kernel
theorem dX9_token_64 : decode cX9_token 64 = .ok (.getfield 218, 3) := by decide +kernel
theorem dX9_token_67 : decode cX9_token 67 = .ok (.if_icmp .ge 12, 3) := by decide +kernel
theorem dX9_token_70 : decode cX9_token 70 = .ok (.aload_n 0, 1) := by decide +kernel
theorem dX9_token_71 : decode cX9_token 71 = .ok (.getfield 233, 3) := by decide +kernel
theorem dX9_token_74 : decode cX9_token 74 = .ok (.iconst 1, 1) := by decide +kernel
theorem dX9_token_75 : decode cX9_token 75 = .ok (.iadd, 1) := by decide +kernel
theorem dX9_token_76 : decode cX9_token 76 = .ok (.goto 7, 3) := by decide +kernel
theorem dX9_token_79 : decode cX9_token 79 = .ok (.aload_n 0, 1) := by decide +kernel
theorem dX9_token_80 : decode cX9_token 80 = .ok (.getfield 233, 3) := by decide +kernel
theorem dX9_token_83 : decode cX9_token 83 = .ok (.putfield 230, 3) := by decide +kernel
theorem dX9_token_86 : decode cX9_token 86 = .ok (.iload_n 1, 1) := by decide +kernel
theorem dX9_token_87 : decode cX9_token 87 = .ok (.ifCond .eq 17, 3) := by decide +kernel
theorem dX9_token_90 : decode cX9_token 90 = .ok (.aload_n 0, 1) := by decide +kernel
theorem dX9_token_91 : decode cX9_token 91 = .ok (.aload_n 0, 1) := by decide +kernel
theorem dX9_token_92 : decode cX9_token 92 = .ok (.getfield 230, 3) := by decide +kernel
theorem dX9_token_95 : decode cX9_token 95 = .ok (.invokevirtual 236, 3) := by decide +kernel
theorem dX9_token_98 : decode cX9_token 98 = .ok (.invokestatic 239, 3) := by decide +kernel
theorem dX9_token_101 : decode cX9_token 101 = .ok (.ifCond .ne 21, 3) := by decide +kernel
theorem dX9_token_104 : decode cX9_token 104 = .ok (.iload_n 2, 1) := by decide +kernel
theorem dX9_token_105 : decode cX9_token 105 = .ok (.ifCond .eq 30, 3) := by decide +kernel
theorem dX9_token_108 : decode cX9_token 108 = .ok (.aload_n 0, 1) := by decide +kernel
theorem dX9_token_109 : decode cX9_token 109 = .ok (.aload_n 0, 1) := by decide +kernel
theorem dX9_token_110 : decode cX9_token 110 = .ok (.getfield 230, 3) := by decide +kernel
theorem dX9_token_113 : decode cX9_token 113 = .ok (.invokevirtual 236, 3) := by decide +kernel
theorem dX9_token_116 : decode cX9_token 116 = .ok (.invokestatic 242, 3) := by decide +kernel
theorem dX9_token_119 : decode cX9_token 119 = .ok (.ifCond .eq 16, 3) := by decide +kernel
theorem dX9_token_122 : decode cX9_token 122 = .ok (.aload_n 0, 1) := by decide +kernel
theorem dX9_token_123 : decode cX9_token 123 = .ok (.dup, 1) := by decide +kernel
theorem dX9_token_124 : decode cX9_token 124 = .ok (.getfield 230, 3) := by decide +kernel
theorem dX9_token_127 : decode cX9_token 127 = .ok (.iconst 1, 1) := by decide +kernel
theorem dX9_token_128 : decode cX9_token 128 = .ok (.iadd, 1) := by decide +kernel
theorem dX9_token_129 : decode cX9_token 129 = .ok (.putfield 230, 3) := by decide +kernel
theorem dX9_token_132 : decode cX9_token 132 = .ok (.goto (-46), 3) := by decide +kernel
theorem dX9_token_135 : decode cX9_token 135 = .ok (.return_, 1) := by decide +kernel
theorem dX9_needs_0 : decode cX9_needs 0 = .ok (.aload_n 0, 1) := by decide +kernel
theorem dX9_needs_1 : decode cX9_needs 1 = .ok (.aload_n 0, 1) := by decide +kernel
theorem dX9_needs_2 : decode cX9_needs 2 = .ok (.getfield 245, 3) := by decide +kernel
theorem dX9_needs_5 : decode cX9_needs 5 = .ok (.ifCond .ne 7, 3) := by decide +kernel
theorem dX9_needs_8 : decode cX9_needs 8 = .ok (.iload_n 1, 1) := by decide +kernel
theorem dX9_needs_9 : decode cX9_needs 9 = .ok (.ifCond .ne 7, 3) := by decide +kernel
theorem dX9_needs_12 : decode cX9_needs 12 = .ok (.iconst 1, 1) := by decide +kernel
theorem dX9_needs_13 : decode cX9_needs 13 = .ok (.goto 4, 3) := by decide +kernel
theorem dX9_needs_16 : decode cX9_needs 16 = .ok (.iconst 0, 1) := by decide +kernel
theorem dX9_needs_17 : decode cX9_needs 17 = .ok (.putfield 245, 3) := by decide +kernel
theorem dX9_needs_20 : decode cX9_needs 20 = .ok (.aload_n 0, 1) := by decide +kernel
theorem dX9_needs_21 : decode cX9_needs 21 = .ok (.getfield 245, 3) := by decide +kernel
theorem dX9_needs_24 : decode cX9_needs 24 = .ok (.ifCond .ne 7, 3) := by decide +kernel
theorem dX9_needs_27 : decode cX9_needs 27 = .ok (.aload_n 0, 1) := by decide +kernel
theorem dX9_needs_28 : decode cX9_needs 28 = .ok (.invokevirtual 249, 3) := by decide +kernel
theorem dX9_needs_31 : decode cX9_needs 31 = .ok (.return_, 1) := by decide +kernel
theorem dX9_word_0 : decode cX9_word 0 = .ok (.lconst 0, 1) := by decide +kernel
theorem dX9_word_1 : decode cX9_word 1 = .ok (.lstore_n 1, 1) := by decide +kernel
theorem dX9_word_2 : decode cX9_word 2 = .ok (.aload_n 0, 1) := by decide +kernel
theorem dX9_word_3 : decode cX9_word 3 = .ok (.getfield 233, 3) := by decide +kernel
theorem dX9_word_6 : decode cX9_word 6 = .ok (.istore_n 3, 1) := by decide +kernel
theorem dX9_word_7 : decode cX9_word 7 = .ok (.iload_n 3, 1) := by decide +kernel
theorem dX9_word_8 : decode cX9_word 8 = .ok (.aload_n 0, 1) := by decide +kernel
theorem dX9_word_9 : decode cX9_word 9 = .ok (.getfield 230, 3) := by decide +kernel
theorem dX9_word_12 : decode cX9_word 12 = .ok (.if_icmp .ge 38, 3) := by decide +kernel
theorem dX9_word_15 : decode cX9_word 15 = .ok (.lload_n 1, 1) := by decide +kernel
theorem dX9_word_16 : decode cX9_word 16 = .ok (.ldc2_w 252, 3) := by decide +kernel
theorem dX9_word_19 : decode cX9_word 19 = .ok (.lcmp, 1) := by decide +kernel
theorem dX9_word_20 : decode cX9_word 20 = .ok (.ifCond .le 7, 3) := by decide +kernel
theorem dX9_word_23 : decode cX9_word 23 = .ok (.lload_n 1, 1) := by decide +kernel
theorem dX9_word_24 : decode cX9_word 24 = .ok (.goto 19, 3) := by decide +kernel
theorem dX9_word_27 : decode cX9_word 27 = .ok (.ldc2_w 254, 3) := by decide +kernel
theorem dX9_word_30 : decode cX9_word 30 = .ok (.lload_n 1, 1) := by decide +kernel
theorem dX9_word_31 : decode cX9_word 31 = .ok (.lmul, 1) := by decide +kernel
theorem dX9_word_32 : decode cX9_word 32 = .ok (.aload_n 0, 1) := by decide +kernel
theorem dX9_word_33 : decode cX9_word 33 = .ok (.getfield 22, 3) := by decide +kernel
theorem dX9_word_36 : decode cX9_word 36 = .ok (.iload_n 3, 1) := by decide +kernel
theorem dX9_word_37 : decode cX9_word 37 = .ok (.iaload, 1) := by decide +kernel
theorem dX9_word_38 : decode cX9_word 38 = .ok (.bipush 96, 2) := by decide +kernel
theorem dX9_word_40 : decode cX9_word 40 = .ok (.isub, 1) := by decide +kernel
theorem dX9_word_41 : decode cX9_word 41 = .ok (.i2l, 1) := by decide +kernel
theorem dX9_word_42 : decode cX9_word 42 = .ok (.ladd, 1) := by decide +kernel
theorem dX9_word_43 : decode cX9_word 43 = .ok (.lstore_n 1, 1) := by decide +kernel
theorem dX9_word_44 : decode cX9_word 44 = .ok (.iinc 3 1, 3) := by decide +kernel
theorem dX9_word_47 : decode cX9_word 47 = .ok (.goto (-40), 3) := by decide +kernel
theorem dX9_word_50 : decode cX9_word 50 = .ok (.aload_n 0, 1) := by decide +kernel
theorem dX9_word_51 : decode cX9_word 51 = .ok (.getfield 245, 3) := by decide +kernel
theorem dX9_word_54 : decode cX9_word 54 = .ok (.ifCond .ne 17, 3) := by decide +kernel
theorem dX9_word_57 : decode cX9_word 57 = .ok (.aload_n 0, 1) := by decide +kernel
theorem dX9_word_58 : decode cX9_word 58 = .ok (.aload_n 0, 1) := by decide +kernel
theorem dX9_word_59 : decode cX9_word 59 = .ok (.getfield 233, 3) := by decide +kernel
theorem dX9_word_62 : decode cX9_word 62 = .ok (.invokevirtual 236, 3) := by decide +kernel
theorem dX9_word_65 : decode cX9_word 65 = .ok (.invokestatic 239, 3) := by decide +kernel
theorem dX9_word_68 : decode cX9_word 68 = .ok (.ifCond .ne 7, 3) := by decide +kernel
theorem dX9_word_71 : decode cX9_word 71 = .ok (.lconst 0, 1) := by decide +kernel
theorem dX9_word_72 : decode cX9_word 72 = .ok (.goto 4, 3) := by decide +kernel
theorem dX9_word_75 : decode cX9_word 75 = .ok (.lload_n 1, 1) := by decide +kernel
theorem dX9_word_76 : decode cX9_word 76 = .ok (.lreturn, 1) := by decide +kernel
theorem dX9_number_0 : decode cX9_number 0 = .ok (.aload_n 0, 1) := by decide +kernel
theorem dX9_number_1 : decode cX9_number 1 = .ok (.getfield 245, 3) := by decide +kernel
theorem dX9_number_4 : decode cX9_number 4 = .ok (.ifCond .eq 4, 3) := by decide +kernel
theorem dX9_number_7 : decode cX9_number 7 = .ok (.return_, 1) := by decide +kernel
theorem dX9_number_8 : decode cX9_number 8 = .ok (.aload_n 0, 1) := by decide +kernel
theorem dX9_number_9 : decode cX9_number 9 = .ok (.aload_n 0, 1) := by decide +kernel
theorem dX9_number_10 : decode cX9_number 10 = .ok (.getfield 233, 3) := by decide +kernel
theorem dX9_number_13 : decode cX9_number 13 = .ok (.invokevirtual 236, 3) := by decide +kernel
theorem dX9_number_16 : decode cX9_number 16 = .ok (.invokestatic 242, 3) := by decide +kernel
theorem dX9_number_19 : decode cX9_number 19 = .ok (.istore_n 3, 1) := by decide +kernel
theorem dX9_number_20 : decode cX9_number 20 = .ok (.iconst 0, 1) := by decide +kernel
theorem dX9_number_21 : decode cX9_number 21 = .ok (.istore 4, 2) := by decide +kernel
theorem dX9_number_23 : decode cX9_number 23 = .ok (.aload_n 0, 1) := by decide +kernel
theorem dX9_number_24 : decode cX9_number 24 = .ok (.getfield 233, 3) := by decide +kernel
theorem dX9_number_27 : decode cX9_number 27 = .ok (.istore 5, 2) := by decide +kernel
theorem dX9_number_29 : decode cX9_number 29 = .ok (.iload 5, 2) := by decide +kernel
theorem dX9_number_31 : decode cX9_number 31 = .ok (.aload_n 0, 1) := by decide +kernel
theorem dX9_number_32 : decode cX9_number 32 = .ok (.getfield 230, 3) := by decide +kernel
theorem dX9_number_35 : decode cX9_number 35 = .ok (.if_icmp .ge 44, 3) := by decide +kernel
theorem dX9_number_38 : decode cX9_number 38 = .ok (.iload_n 3, 1) := by decide +kernel
theorem dX9_number_39 : decode cX9_number 39 = .ok (.ifCond .eq 40, 3) := by decide +kernel
theorem dX9_number_42 : decode cX9_number 42 = .ok (.iload 4, 2) := by decide +kernel
theorem dX9_number_44 : decode cX9_number 44 = .ok (.sipush 999, 3) := by decide +kernel
theorem dX9_number_47 : decode cX9_number 47 = .ok (.if_icmp .le 8, 3) := by decide +kernel
theorem dX9_number_50 : decode cX9_number 50 = .ok (.iload 4, 2) := by decide +kernel
theorem dX9_number_52 : decode cX9_number 52 = .ok (.goto 19, 3) := by decide +kernel
theorem dX9_number_55 : decode cX9_number 55 = .ok (.bipush 10, 2) := by decide +kernel
theorem dX9_number_57 : decode cX9_number 57 = .ok (.iload 4, 2) := by decide +kernel
theorem dX9_number_59 : decode cX9_number 59 = .ok (.imul, 1) := by decide +kernel
theorem dX9_number_60 : decode cX9_number 60 = .ok (.aload_n 0, 1) := by decide +kernel
theorem dX9_number_61 : decode cX9_number 61 = .ok (.getfield 22, 3) := by decide +kernel
theorem dX9_number_64 : decode cX9_number 64 = .ok (.iload 5, 2) := by decide +kernel
theorem dX9_number_66 : decode cX9_number 66 = .ok (.iaload, 1) := by decide +kernel
theorem dX9_number_67 : decode cX9_number 67 = .ok (.iadd, 1) := by decide +kernel
theorem dX9_number_68 : decode cX9_number 68 = .ok (.bipush 48, 2) := by decide +kernel
theorem dX9_number_70 : decode cX9_number 70 = .ok (.isub, 1) := by decide +kernel
theorem dX9_number_71 : decode cX9_number 71 = .ok (.istore 4, 2) := by decide +kernel
theorem dX9_number_73 : decode cX9_number 73 = .ok (.iinc 5 1, 3) := by decide +kernel
theorem dX9_number_76 : decode cX9_number 76 = .ok (.goto (-47), 3) := by decide +kernel
theorem dX9_number_79 : decode cX9_number 79 = .ok (.aload_n 0, 1) := by decide +kernel
theorem dX9_number_80 : decode cX9_number 80 = .ok (.iload 4, 2) := by decide +kernel
theorem dX9_number_82 : decode cX9_number 82 = .ok (.putfield 256, 3) := by decide +kernel
theorem dX9_number_85 : decode cX9_number 85 = .ok (.aload_n 0, 1) := by decide +kernel
theorem dX9_number_86 : decode cX9_number 86 = .ok (.iload_n 3, 1) := by decide +kernel
theorem dX9_number_87 : decode cX9_number 87 = .ok (.ifCond .eq 20, 3) := by decide +kernel
theorem dX9_number_90 : decode cX9_number 90 = .ok (.iload 4, 2) := by decide +kernel
theorem dX9_number_92 : decode cX9_number 92 = .ok (.i2l, 1) := by decide +kernel
theorem dX9_number_93 : decode cX9_number 93 = .ok (.iload_n 1, 1) := by decide +kernel
theorem dX9_number_94 : decode cX9_number 94 = .ok (.i2l, 1) := by decide +kernel
theorem dX9_number_95 : decode cX9_number 95 = .ok (.iload_n 2, 1) := by decide +kernel
theorem dX9_number_96 : decode cX9_number 96 = .ok (.i2l, 1) := by decide +kernel
theorem dX9_number_97 : decode cX9_number 97 = .ok (.invokestatic 38, 3) := by decide +kernel
theorem dX9_number_100 : decode cX9_number 100 = .ok (.ifCond .eq 7, 3) := by decide +kernel
theorem dX9_number_103 : decode cX9_number 103 = .ok (.iconst 1, 1) := by decide +kernel
theorem dX9_number_104 : decode cX9_number 104 = .ok (.goto 4, 3) := by decide +kernel
theorem dX9_number_107 : decode cX9_number 107 = .ok (.iconst 0, 1) := by decide +kernel
theorem dX9_number_108 : decode cX9_number 108 = .ok (.invokevirtual 259, 3) := by decide +kernel
theorem dX9_number_111 : decode cX9_number 111 = .ok (.return_, 1) := by decide +kernel
theorem dX9_kindHere_0 : decode cX9_kindHere 0 = .ok (.aload_n 0, 1) := by decide +kernel
theorem dX9_kindHere_1 : decode cX9_kindHere 1 = .ok (.invokevirtual 263, 3) := by decide +kernel
theorem dX9_kindHere_4 : decode cX9_kindHere 4 = .ok (.lstore_n 1, 1) := by decide +kernel
theorem dX9_kindHere_5 : decode cX9_kindHere 5 = .ok (.lload_n 1, 1) := by decide +kernel
theorem dX9_kindHere_6 : decode cX9_kindHere 6 = .ok (.ldc2_w 267, 3) := by decide +kernel
theorem dX9_kindHere_9 : decode cX9_kindHere 9 = .ok (.lcmp, 1) := by decide +kernel
theorem dX9_kindHere_10 : decode cX9_kindHere 10 = .ok (.ifCond .ne 7, 3) := by decide +kernel
theorem dX9_kindHere_13 : decode cX9_kindHere 13 = .ok (.iconst 0, 1) := by decide +kernel
theorem dX9_kindHere_14 : decode cX9_kindHere 14 = .ok (.goto 77, 3) := by decide +kernel
theorem dX9_kindHere_17 : decode cX9_kindHere 17 = .ok (.lload_n 1, 1) := by decide +kernel
theorem dX9_kindHere_18 : decode cX9_kindHere 18 = .ok (.ldc2_w 269, 3) := by decide +kernel
theorem dX9_kindHere_21 : decode cX9_kindHere 21 = .ok (.lcmp, 1) := by decide +kernel
theorem dX9_kindHere_22 : decode cX9_kindHere 22 = .ok (.ifCond .ne 7, 3) := by decide +kernel
theorem dX9_kindHere_25 : decode cX9_kindHere 25 = .ok (.iconst 1, 1) := by decide +kernel
theorem dX9_kindHere_26 : decode cX9_kindHere 26 = .ok (.goto 65, 3) := by decide +kernel
theorem dX9_kindHere_29 : decode cX9_kindHere 29 = .ok (.lload_n 1, 1) := by decide +kernel
theorem dX9_kindHere_30 : decode cX9_kindHere 30 = .ok (.ldc2_w 271, 3) := by decide +kernel
theorem dX9_kindHere_33 : decode cX9_kindHere 33 = .ok (.lcmp, 1) := by decide +kernel
theorem dX9_kindHere_34 : decode cX9_kindHere 34 = .ok (.ifCond .ne 7, 3) := by decide +kernel
theorem dX9_kindHere_37 : decode cX9_kindHere 37 = .ok (.iconst 2, 1) := by decide +kernel
theorem dX9_kindHere_38 : decode cX9_kindHere 38 = .ok (.goto 53, 3) := by decide +kernel
theorem dX9_kindHere_41 : decode cX9_kindHere 41 = .ok (.lload_n 1, 1) := by decide +kernel
theorem dX9_kindHere_42 : decode cX9_kindHere 42 = .ok (.ldc2_w 273, 3) := by decide +kernel
theorem dX9_kindHere_45 : decode cX9_kindHere 45 = .ok (.lcmp, 1) := by decide +kernel
theorem dX9_kindHere_46 : decode cX9_kindHere 46 = .ok (.ifCond .ne 7, 3) := by decide +kernel
theorem dX9_kindHere_49 : decode cX9_kindHere 49 = .ok (.iconst 3, 1) := by decide +kernel
theorem dX9_kindHere_50 : decode cX9_kindHere 50 = .ok (.goto 41, 3) := by decide +kernel
theorem dX9_kindHere_53 : decode cX9_kindHere 53 = .ok (.lload_n 1, 1) := by decide +kernel
theorem dX9_kindHere_54 : decode cX9_kindHere 54 = .ok (.ldc2_w 275, 3) := by decide +kernel
theorem dX9_kindHere_57 : decode cX9_kindHere 57 = .ok (.lcmp, 1) := by decide +kernel
theorem dX9_kindHere_58 : decode cX9_kindHere 58 = .ok (.ifCond .ne 7, 3) := by decide +kernel
theorem dX9_kindHere_61 : decode cX9_kindHere 61 = .ok (.iconst 4, 1) := by decide +kernel
theorem dX9_kindHere_62 : decode cX9_kindHere 62 = .ok (.goto 29, 3) := by decide +kernel
theorem dX9_kindHere_65 : decode cX9_kindHere 65 = .ok (.lload_n 1, 1) := by decide +kernel
theorem dX9_kindHere_66 : decode cX9_kindHere 66 = .ok (.ldc2_w 277, 3) := by decide +kernel
theorem dX9_kindHere_69 : decode cX9_kindHere 69 = .ok (.lcmp, 1) := by decide +kernel
theorem dX9_kindHere_70 : decode cX9_kindHere 70 = .ok (.ifCond .ne 7, 3) := by decide +kernel
theorem dX9_kindHere_73 : decode cX9_kindHere 73 = .ok (.iconst 5, 1) := by decide +kernel
theorem dX9_kindHere_74 : decode cX9_kindHere 74 = .ok (.goto 17, 3) := by decide +kernel
theorem dX9_kindHere_77 : decode cX9_kindHere 77 = .ok (.lload_n 1, 1) := by decide +kernel
theorem dX9_kindHere_78 : decode cX9_kindHere 78 = .ok (.ldc2_w 279, 3) := by decide +kernel
theorem dX9_kindHere_81 : decode cX9_kindHere 81 = .ok (.lcmp, 1) := by decide +kernel
theorem dX9_kindHere_82 : decode cX9_kindHere 82 = .ok (.ifCond .ne 8, 3) := by decide +kernel
theorem dX9_kindHere_85 : decode cX9_kindHere 85 = .ok (.bipush 6, 2) := by decide +kernel
theorem dX9_kindHere_87 : decode cX9_kindHere 87 = .ok (.goto 4, 3) := by decide +kernel
theorem dX9_kindHere_90 : decode cX9_kindHere 90 = .ok (.iconst (-1), 1) := by decide +kernel
theorem dX9_kindHere_91 : decode cX9_kindHere 91 = .ok (.ireturn, 1) := by decide +kernel
theorem dX9_placeHere_0 : decode cX9_placeHere 0 = .ok (.aload_n 0, 1) := by decide +kernel
theorem dX9_placeHere_1 : decode cX9_placeHere 1 = .ok (.invokevirtual 263, 3) := by decide +kernel
theorem dX9_placeHere_4 : decode cX9_placeHere 4 = .ok (.lstore_n 1, 1) := by decide +kernel
theorem dX9_placeHere_5 : decode cX9_placeHere 5 = .ok (.lload_n 1, 1) := by decide +kernel
theorem dX9_placeHere_6 : decode cX9_placeHere 6 = .ok (.ldc2_w 281, 3) := by decide +kernel
theorem dX9_placeHere_9 : decode cX9_placeHere 9 = .ok (.lcmp, 1) := by decide +kernel
theorem dX9_placeHere_10 : decode cX9_placeHere 10 = .ok (.ifCond .ne 7, 3) := by decide +kernel
theorem dX9_placeHere_13 : decode cX9_placeHere 13 = .ok (.iconst 1, 1) := by decide +kernel
theorem dX9_placeHere_14 : decode cX9_placeHere 14 = .ok (.goto 28, 3) := by decide +kernel
theorem dX9_placeHere_17 : decode cX9_placeHere 17 = .ok (.lload_n 1, 1) := by decide +kernel
theorem dX9_placeHere_18 : decode cX9_placeHere 18 = .ok (.ldc2_w 283, 3) := by decide +kernel
theorem dX9_placeHere_21 : decode cX9_placeHere 21 = .ok (.lcmp, 1) := by decide +kernel
theorem dX9_placeHere_22 : decode cX9_placeHere 22 = .ok (.ifCond .ne 7, 3) := by decide +kernel
theorem dX9_placeHere_25 : decode cX9_placeHere 25 = .ok (.iconst 2, 1) := by decide +kernel
theorem dX9_placeHere_26 : decode cX9_placeHere 26 = .ok (.goto 16, 3) := by decide +kernel
theorem dX9_placeHere_29 : decode cX9_placeHere 29 = .ok (.lload_n 1, 1) := by decide +kernel
theorem dX9_placeHere_30 : decode cX9_placeHere 30 = .ok (.ldc2_w 285, 3) := by decide +kernel
theorem dX9_placeHere_33 : decode cX9_placeHere 33 = .ok (.lcmp, 1) := by decide +kernel
theorem dX9_placeHere_34 : decode cX9_placeHere 34 = .ok (.ifCond .ne 7, 3) := by decide +kernel
theorem dX9_placeHere_37 : decode cX9_placeHere 37 = .ok (.iconst 3, 1) := by decide +kernel
theorem dX9_placeHere_38 : decode cX9_placeHere 38 = .ok (.goto 4, 3) := by decide +kernel
theorem dX9_placeHere_41 : decode cX9_placeHere 41 = .ok (.iconst 0, 1) := by decide +kernel
theorem dX9_placeHere_42 : decode cX9_placeHere 42 = .ok (.ireturn, 1) := by decide +kernel
theorem dX9_perhaps_0 : decode cX9_perhaps 0 = .ok (.iload_n 1, 1) := by decide +kernel
theorem dX9_perhaps_1 : decode cX9_perhaps 1 = .ok (.ifCond .ne 5, 3) := by decide +kernel
theorem dX9_perhaps_4 : decode cX9_perhaps 4 = .ok (.iload_n 3, 1) := by decide +kernel
theorem dX9_perhaps_5 : decode cX9_perhaps 5 = .ok (.ireturn, 1) := by decide +kernel
theorem dX9_perhaps_6 : decode cX9_perhaps 6 = .ok (.aload_n 0, 1) := by decide +kernel
theorem dX9_perhaps_7 : decode cX9_perhaps 7 = .ok (.iconst 1, 1) := by decide +kernel
theorem dX9_perhaps_8 : decode cX9_perhaps 8 = .ok (.invokevirtual 259, 3) := by decide +kernel
theorem dX9_perhaps_11 : decode cX9_perhaps 11 = .ok (.aload_n 0, 1) := by decide +kernel
theorem dX9_perhaps_12 : decode cX9_perhaps 12 = .ok (.iconst 0, 1) := by decide +kernel
theorem dX9_perhaps_13 : decode cX9_perhaps 13 = .ok (.iload_n 2, 1) := by decide +kernel
theorem dX9_perhaps_14 : decode cX9_perhaps 14 = .ok (.invokevirtual 287, 3) := by decide +kernel
theorem dX9_perhaps_17 : decode cX9_perhaps 17 = .ok (.aload_n 0, 1) := by decide +kernel
theorem dX9_perhaps_18 : decode cX9_perhaps 18 = .ok (.getfield 256, 3) := by decide +kernel
theorem dX9_perhaps_21 : decode cX9_perhaps 21 = .ok (.ireturn, 1) := by decide +kernel
theorem dX9_batchItem_0 : decode cX9_batchItem 0 = .ok (.aload_n 0, 1) := by decide +kernel
theorem dX9_batchItem_1 : decode cX9_batchItem 1 = .ok (.aload_n 0, 1) := by decide +kernel
theorem dX9_batchItem_2 : decode cX9_batchItem 2 = .ok (.getfield 7, 3) := by decide +kernel
theorem dX9_batchItem_5 : decode cX9_batchItem 5 = .ok (.iconst 1, 1) := by decide +kernel
theorem dX9_batchItem_6 : decode cX9_batchItem 6 = .ok (.iaload, 1) := by decide +kernel
theorem dX9_batchItem_7 : decode cX9_batchItem 7 = .ok (.bipush 10, 2) := by decide +kernel
theorem dX9_batchItem_9 : decode cX9_batchItem 9 = .ok (.if_icmp .ge 7, 3) := by decide +kernel
theorem dX9_batchItem_12 : decode cX9_batchItem 12 = .ok (.iconst 1, 1) := by decide +kernel
theorem dX9_batchItem_13 : decode cX9_batchItem 13 = .ok (.goto 4, 3) := by decide +kernel
theorem dX9_batchItem_16 : decode cX9_batchItem 16 = .ok (.iconst 0, 1) := by decide +kernel
theorem dX9_batchItem_17 : decode cX9_batchItem 17 = .ok (.invokevirtual 259, 3) := by decide +kernel
theorem dX9_batchItem_20 : decode cX9_batchItem 20 = .ok (.aload_n 0, 1) := by decide +kernel
theorem dX9_batchItem_21 : decode cX9_batchItem 21 = .ok (.aload_n 0, 1) := by decide +kernel
theorem dX9_batchItem_22 : decode cX9_batchItem 22 = .ok (.invokevirtual 263, 3) := by decide +kernel
theorem dX9_batchItem_25 : decode cX9_batchItem 25 = .ok (.ldc2_w 289, 3) := by decide +kernel
theorem dX9_batchItem_28 : decode cX9_batchItem 28 = .ok (.lcmp, 1) := by decide +kernel
theorem dX9_batchItem_29 : decode cX9_batchItem 29 = .ok (.ifCond .ne 7, 3) := by decide +kernel
theorem dX9_batchItem_32 : decode cX9_batchItem 32 = .ok (.iconst 1, 1) := by decide +kernel
theorem dX9_batchItem_33 : decode cX9_batchItem 33 = .ok (.goto 4, 3) := by decide +kernel
theorem dX9_batchItem_36 : decode cX9_batchItem 36 = .ok (.iconst 0, 1) := by decide +kernel
theorem dX9_batchItem_37 : decode cX9_batchItem 37 = .ok (.sipush 999, 3) := by decide +kernel
theorem dX9_batchItem_40 : decode cX9_batchItem 40 = .ok (.iconst 0, 1) := by decide +kernel
theorem dX9_batchItem_41 : decode cX9_batchItem 41 = .ok (.invokevirtual 291, 3) := by decide +kernel
theorem dX9_batchItem_44 : decode cX9_batchItem 44 = .ok (.istore_n 2, 1) := by decide +kernel
theorem dX9_batchItem_45 : decode cX9_batchItem 45 = .ok (.aload_n 0, 1) := by decide +kernel
theorem dX9_batchItem_46 : decode cX9_batchItem 46 = .ok (.invokevirtual 295, 3) := by decide +kernel
theorem dX9_batchItem_49 : decode cX9_batchItem 49 = .ok (.istore_n 3, 1) := by decide +kernel
theorem dX9_batchItem_50 : decode cX9_batchItem 50 = .ok (.iload_n 3, 1) := by decide +kernel
theorem dX9_batchItem_51 : decode cX9_batchItem 51 = .ok (.ifCond .eq 12, 3) := by decide +kernel
theorem dX9_batchItem_54 : decode cX9_batchItem 54 = .ok (.aload_n 0, 1) := by decide +kernel
theorem dX9_batchItem_55 : decode cX9_batchItem 55 = .ok (.aload_n 0, 1) := by decide +kernel
theorem dX9_batchItem_56 : decode cX9_batchItem 56 = .ok (.iload_n 3, 1) := by decide +kernel
theorem dX9_batchItem_57 : decode cX9_batchItem 57 = .ok (.invokevirtual 99, 3) := by decide +kernel
theorem dX9_batchItem_60 : decode cX9_batchItem 60 = .ok (.invokevirtual 259, 3) := by decide +kernel
theorem dX9_batchItem_63 : decode cX9_batchItem 63 = .ok (.aload_n 0, 1) := by decide +kernel
theorem dX9_batchItem_64 : decode cX9_batchItem 64 = .ok (.getfield 245, 3) := by decide +kernel
theorem dX9_batchItem_67 : decode cX9_batchItem 67 = .ok (.ifCond .ne 12, 3) := by decide +kernel
theorem dX9_batchItem_70 : decode cX9_batchItem 70 = .ok (.aload_n 0, 1) := by decide +kernel
theorem dX9_batchItem_71 : decode cX9_batchItem 71 = .ok (.iload_n 1, 1) := by decide +kernel
theorem dX9_batchItem_72 : decode cX9_batchItem 72 = .ok (.iload_n 2, 1) := by decide +kernel
theorem dX9_batchItem_73 : decode cX9_batchItem 73 = .ok (.iload_n 3, 1) := by decide +kernel
theorem dX9_batchItem_74 : decode cX9_batchItem 74 = .ok (.invokevirtual 56, 3) := by decide +kernel
theorem dX9_batchItem_77 : decode cX9_batchItem 77 = .ok (.istore 4, 2) := by decide +kernel
theorem dX9_batchItem_79 : decode cX9_batchItem 79 = .ok (.return_, 1) := by decide +kernel
theorem dX9_crowdItem_0 : decode cX9_crowdItem 0 = .ok (.aload_n 0, 1) := by decide +kernel
theorem dX9_crowdItem_1 : decode cX9_crowdItem 1 = .ok (.aload_n 0, 1) := by decide +kernel
theorem dX9_crowdItem_2 : decode cX9_crowdItem 2 = .ok (.getfield 7, 3) := by decide +kernel
theorem dX9_crowdItem_5 : decode cX9_crowdItem 5 = .ok (.iconst 2, 1) := by decide +kernel
theorem dX9_crowdItem_6 : decode cX9_crowdItem 6 = .ok (.iaload, 1) := by decide +kernel
theorem dX9_crowdItem_7 : decode cX9_crowdItem 7 = .ok (.bipush 12, 2) := by decide +kernel
theorem dX9_crowdItem_9 : decode cX9_crowdItem 9 = .ok (.if_icmp .ge 7, 3) := by decide +kernel
theorem dX9_crowdItem_12 : decode cX9_crowdItem 12 = .ok (.iconst 1, 1) := by decide +kernel
theorem dX9_crowdItem_13 : decode cX9_crowdItem 13 = .ok (.goto 4, 3) := by decide +kernel
theorem dX9_crowdItem_16 : decode cX9_crowdItem 16 = .ok (.iconst 0, 1) := by decide +kernel
theorem dX9_crowdItem_17 : decode cX9_crowdItem 17 = .ok (.invokevirtual 259, 3) := by decide +kernel
theorem dX9_crowdItem_20 : decode cX9_crowdItem 20 = .ok (.aload_n 0, 1) := by decide +kernel
theorem dX9_crowdItem_21 : decode cX9_crowdItem 21 = .ok (.iconst 0, 1) := by decide +kernel
theorem dX9_crowdItem_22 : decode cX9_crowdItem 22 = .ok (.sipush 400, 3) := by decide +kernel
theorem dX9_crowdItem_25 : decode cX9_crowdItem 25 = .ok (.invokevirtual 287, 3) := by decide +kernel
theorem dX9_crowdItem_28 : decode cX9_crowdItem 28 = .ok (.aload_n 0, 1) := by decide +kernel
theorem dX9_crowdItem_29 : decode cX9_crowdItem 29 = .ok (.getfield 256, 3) := by decide +kernel
theorem dX9_crowdItem_32 : decode cX9_crowdItem 32 = .ok (.istore_n 1, 1) := by decide +kernel
theorem dX9_crowdItem_33 : decode cX9_crowdItem 33 = .ok (.aload_n 0, 1) := by decide +kernel
theorem dX9_crowdItem_34 : decode cX9_crowdItem 34 = .ok (.aload_n 0, 1) := by decide +kernel
theorem dX9_crowdItem_35 : decode cX9_crowdItem 35 = .ok (.invokevirtual 263, 3) := by decide +kernel
theorem dX9_crowdItem_38 : decode cX9_crowdItem 38 = .ok (.ldc2_w 298, 3) := by decide +kernel
theorem dX9_crowdItem_41 : decode cX9_crowdItem 41 = .ok (.lcmp, 1) := by decide +kernel
theorem dX9_crowdItem_42 : decode cX9_crowdItem 42 = .ok (.ifCond .ne 7, 3) := by decide +kernel
theorem dX9_crowdItem_45 : decode cX9_crowdItem 45 = .ok (.iconst 1, 1) := by decide +kernel
theorem dX9_crowdItem_46 : decode cX9_crowdItem 46 = .ok (.goto 4, 3) := by decide +kernel
theorem dX9_crowdItem_49 : decode cX9_crowdItem 49 = .ok (.iconst 0, 1) := by decide +kernel
theorem dX9_crowdItem_50 : decode cX9_crowdItem 50 = .ok (.invokevirtual 259, 3) := by decide +kernel
theorem dX9_crowdItem_53 : decode cX9_crowdItem 53 = .ok (.aload_n 0, 1) := by decide +kernel
theorem dX9_crowdItem_54 : decode cX9_crowdItem 54 = .ok (.iconst 0, 1) := by decide +kernel
theorem dX9_crowdItem_55 : decode cX9_crowdItem 55 = .ok (.iconst 3, 1) := by decide +kernel
theorem dX9_crowdItem_56 : decode cX9_crowdItem 56 = .ok (.invokevirtual 287, 3) := by decide +kernel
theorem dX9_crowdItem_59 : decode cX9_crowdItem 59 = .ok (.aload_n 0, 1) := by decide +kernel
theorem dX9_crowdItem_60 : decode cX9_crowdItem 60 = .ok (.getfield 256, 3) := by decide +kernel
theorem dX9_crowdItem_63 : decode cX9_crowdItem 63 = .ok (.istore_n 2, 1) := by decide +kernel
theorem dX9_crowdItem_64 : decode cX9_crowdItem 64 = .ok (.aload_n 0, 1) := by decide +kernel
theorem dX9_crowdItem_65 : decode cX9_crowdItem 65 = .ok (.aload_n 0, 1) := by decide +kernel
theorem dX9_crowdItem_66 : decode cX9_crowdItem 66 = .ok (.invokevirtual 263, 3) := by decide +kernel
theorem dX9_crowdItem_69 : decode cX9_crowdItem 69 = .ok (.ldc2_w 300, 3) := by decide +kernel
theorem dX9_crowdItem_72 : decode cX9_crowdItem 72 = .ok (.lcmp, 1) := by decide +kernel
theorem dX9_crowdItem_73 : decode cX9_crowdItem 73 = .ok (.ifCond .ne 7, 3) := by decide +kernel
theorem dX9_crowdItem_76 : decode cX9_crowdItem 76 = .ok (.iconst 1, 1) := by decide +kernel
theorem dX9_crowdItem_77 : decode cX9_crowdItem 77 = .ok (.goto 4, 3) := by decide +kernel
theorem dX9_crowdItem_80 : decode cX9_crowdItem 80 = .ok (.iconst 0, 1) := by decide +kernel
theorem dX9_crowdItem_81 : decode cX9_crowdItem 81 = .ok (.invokevirtual 259, 3) := by decide +kernel
theorem dX9_crowdItem_84 : decode cX9_crowdItem 84 = .ok (.aload_n 0, 1) := by decide +kernel
theorem dX9_crowdItem_85 : decode cX9_crowdItem 85 = .ok (.iconst 0, 1) := by decide +kernel
theorem dX9_crowdItem_86 : decode cX9_crowdItem 86 = .ok (.sipush 999, 3) := by decide +kernel
theorem dX9_crowdItem_89 : decode cX9_crowdItem 89 = .ok (.invokevirtual 287, 3) := by decide +kernel
theorem dX9_crowdItem_92 : decode cX9_crowdItem 92 = .ok (.aload_n 0, 1) := by decide +kernel
theorem dX9_crowdItem_93 : decode cX9_crowdItem 93 = .ok (.getfield 245, 3) := by decide +kernel
theorem dX9_crowdItem_96 : decode cX9_crowdItem 96 = .ok (.ifCond .ne 14, 3) := by decide +kernel
theorem dX9_crowdItem_99 : decode cX9_crowdItem 99 = .ok (.aload_n 0, 1) := by decide +kernel
theorem dX9_crowdItem_100 : decode cX9_crowdItem 100 = .ok (.iload_n 2, 1) := by decide +kernel
theorem dX9_crowdItem_101 : decode cX9_crowdItem 101 = .ok (.aload_n 0, 1) := by decide +kernel
theorem dX9_crowdItem_102 : decode cX9_crowdItem 102 = .ok (.getfield 256, 3) := by decide +kernel
theorem dX9_crowdItem_105 : decode cX9_crowdItem 105 = .ok (.iload_n 1, 1) := by decide +kernel
theorem dX9_crowdItem_106 : decode cX9_crowdItem 106 = .ok (.invokevirtual 142, 3) := by decide +kernel
theorem dX9_crowdItem_109 : decode cX9_crowdItem 109 = .ok (.istore_n 3, 1) := by decide +kernel
theorem dX9_crowdItem_110 : decode cX9_crowdItem 110 = .ok (.return_, 1) := by decide +kernel
theorem dX9_ruleItem_0 : decode cX9_ruleItem 0 = .ok (.aload_n 0, 1) := by decide +kernel
theorem dX9_ruleItem_1 : decode cX9_ruleItem 1 = .ok (.iconst 1, 1) := by decide +kernel
theorem dX9_ruleItem_2 : decode cX9_ruleItem 2 = .ok (.iload_n 2, 1) := by decide +kernel
theorem dX9_ruleItem_3 : decode cX9_ruleItem 3 = .ok (.iconst 0, 1) := by decide +kernel
theorem dX9_ruleItem_4 : decode cX9_ruleItem 4 = .ok (.invokevirtual 291, 3) := by decide +kernel
theorem dX9_ruleItem_7 : decode cX9_ruleItem 7 = .ok (.istore_n 3, 1) := by decide +kernel
theorem dX9_ruleItem_8 : decode cX9_ruleItem 8 = .ok (.aload_n 0, 1) := by decide +kernel
theorem dX9_ruleItem_9 : decode cX9_ruleItem 9 = .ok (.getfield 245, 3) := by decide +kernel
theorem dX9_ruleItem_12 : decode cX9_ruleItem 12 = .ok (.ifCond .ne 12, 3) := by decide +kernel
theorem dX9_ruleItem_15 : decode cX9_ruleItem 15 = .ok (.aload_n 0, 1) := by decide +kernel
theorem dX9_ruleItem_16 : decode cX9_ruleItem 16 = .ok (.getfield 7, 3) := by decide +kernel
theorem dX9_ruleItem_19 : decode cX9_ruleItem 19 = .ok (.iconst 4, 1) := by decide +kernel
theorem dX9_ruleItem_20 : decode cX9_ruleItem 20 = .ok (.iload_n 1, 1) := by decide +kernel
theorem dX9_ruleItem_21 : decode cX9_ruleItem 21 = .ok (.iadd, 1) := by decide +kernel
theorem dX9_ruleItem_22 : decode cX9_ruleItem 22 = .ok (.iload_n 3, 1) := by decide +kernel
theorem dX9_ruleItem_23 : decode cX9_ruleItem 23 = .ok (.iastore, 1) := by decide +kernel
theorem dX9_ruleItem_24 : decode cX9_ruleItem 24 = .ok (.return_, 1) := by decide +kernel
theorem dX9_item_0 : decode cX9_item 0 = .ok (.aload_n 0, 1) := by decide +kernel
theorem dX9_item_1 : decode cX9_item 1 = .ok (.invokevirtual 302, 3) := by decide +kernel
theorem dX9_item_4 : decode cX9_item 4 = .ok (.istore_n 1, 1) := by decide +kernel
theorem dX9_item_5 : decode cX9_item 5 = .ok (.iload_n 1, 1) := by decide +kernel
theorem dX9_item_6 : decode cX9_item 6 = .ok (.ifCond .lt 11, 3) := by decide +kernel
theorem dX9_item_9 : decode cX9_item 9 = .ok (.aload_n 0, 1) := by decide +kernel
theorem dX9_item_10 : decode cX9_item 10 = .ok (.iload_n 1, 1) := by decide +kernel
theorem dX9_item_11 : decode cX9_item 11 = .ok (.invokevirtual 305, 3) := by decide +kernel
theorem dX9_item_14 : decode cX9_item 14 = .ok (.goto 89, 3) := by decide +kernel
theorem dX9_item_17 : decode cX9_item 17 = .ok (.aload_n 0, 1) := by decide +kernel
theorem dX9_item_18 : decode cX9_item 18 = .ok (.invokevirtual 263, 3) := by decide +kernel
theorem dX9_item_21 : decode cX9_item 21 = .ok (.ldc2_w 308, 3) := by decide +kernel
theorem dX9_item_24 : decode cX9_item 24 = .ok (.lcmp, 1) := by decide +kernel
theorem dX9_item_25 : decode cX9_item 25 = .ok (.ifCond .ne 10, 3) := by decide +kernel
theorem dX9_item_28 : decode cX9_item 28 = .ok (.aload_n 0, 1) := by decide +kernel
theorem dX9_item_29 : decode cX9_item 29 = .ok (.invokevirtual 310, 3) := by decide +kernel
theorem dX9_item_32 : decode cX9_item 32 = .ok (.goto 71, 3) := by decide +kernel
theorem dX9_item_35 : decode cX9_item 35 = .ok (.aload_n 0, 1) := by decide +kernel
theorem dX9_item_36 : decode cX9_item 36 = .ok (.invokevirtual 263, 3) := by decide +kernel
theorem dX9_item_39 : decode cX9_item 39 = .ok (.ldc2_w 313, 3) := by decide +kernel
theorem dX9_item_42 : decode cX9_item 42 = .ok (.lcmp, 1) := by decide +kernel
theorem dX9_item_43 : decode cX9_item 43 = .ok (.ifCond .ne 13, 3) := by decide +kernel
theorem dX9_item_46 : decode cX9_item 46 = .ok (.aload_n 0, 1) := by decide +kernel
theorem dX9_item_47 : decode cX9_item 47 = .ok (.iconst 0, 1) := by decide +kernel
theorem dX9_item_48 : decode cX9_item 48 = .ok (.bipush 20, 2) := by decide +kernel
theorem dX9_item_50 : decode cX9_item 50 = .ok (.invokevirtual 315, 3) := by decide +kernel
theorem dX9_item_53 : decode cX9_item 53 = .ok (.goto 50, 3) := by decide +kernel
theorem dX9_item_56 : decode cX9_item 56 = .ok (.aload_n 0, 1) := by decide +kernel
theorem dX9_item_57 : decode cX9_item 57 = .ok (.invokevirtual 263, 3) := by decide +kernel
theorem dX9_item_60 : decode cX9_item 60 = .ok (.ldc2_w 318, 3) := by decide +kernel
theorem dX9_item_63 : decode cX9_item 63 = .ok (.lcmp, 1) := by decide +kernel
theorem dX9_item_64 : decode cX9_item 64 = .ok (.ifCond .ne 13, 3) := by decide +kernel
theorem dX9_item_67 : decode cX9_item 67 = .ok (.aload_n 0, 1) := by decide +kernel
theorem dX9_item_68 : decode cX9_item 68 = .ok (.iconst 1, 1) := by decide +kernel
theorem dX9_item_69 : decode cX9_item 69 = .ok (.bipush 99, 2) := by decide +kernel
theorem dX9_item_71 : decode cX9_item 71 = .ok (.invokevirtual 315, 3) := by decide +kernel
theorem dX9_item_74 : decode cX9_item 74 = .ok (.goto 29, 3) := by decide +kernel
theorem dX9_item_77 : decode cX9_item 77 = .ok (.aload_n 0, 1) := by decide +kernel
theorem dX9_item_78 : decode cX9_item 78 = .ok (.invokevirtual 263, 3) := by decide +kernel
theorem dX9_item_81 : decode cX9_item 81 = .ok (.ldc2_w 320, 3) := by decide +kernel
theorem dX9_item_84 : decode cX9_item 84 = .ok (.lcmp, 1) := by decide +kernel
theorem dX9_item_85 : decode cX9_item 85 = .ok (.ifCond .ne 13, 3) := by decide +kernel
theorem dX9_item_88 : decode cX9_item 88 = .ok (.aload_n 0, 1) := by decide +kernel
theorem dX9_item_89 : decode cX9_item 89 = .ok (.iconst 2, 1) := by decide +kernel
theorem dX9_item_90 : decode cX9_item 90 = .ok (.bipush 9, 2) := by decide +kernel
theorem dX9_item_92 : decode cX9_item 92 = .ok (.invokevirtual 315, 3) := by decide +kernel
theorem dX9_item_95 : decode cX9_item 95 = .ok (.goto 8, 3) := by decide +kernel
theorem dX9_item_98 : decode cX9_item 98 = .ok (.aload_n 0, 1) := by decide +kernel
theorem dX9_item_99 : decode cX9_item 99 = .ok (.iconst 0, 1) := by decide +kernel
theorem dX9_item_100 : decode cX9_item 100 = .ok (.invokevirtual 259, 3) := by decide +kernel
theorem dX9_item_103 : decode cX9_item 103 = .ok (.return_, 1) := by decide +kernel
theorem dX9_text_0 : decode cX9_text 0 = .ok (.aload_n 0, 1) := by decide +kernel
theorem dX9_text_1 : decode cX9_text 1 = .ok (.invokevirtual 179, 3) := by decide +kernel
theorem dX9_text_4 : decode cX9_text 4 = .ok (.aload_n 0, 1) := by decide +kernel
theorem dX9_text_5 : decode cX9_text 5 = .ok (.iconst 0, 1) := by decide +kernel
theorem dX9_text_6 : decode cX9_text 6 = .ok (.putfield 230, 3) := by decide +kernel
theorem dX9_text_9 : decode cX9_text 9 = .ok (.aload_n 0, 1) := by decide +kernel
theorem dX9_text_10 : decode cX9_text 10 = .ok (.iconst 0, 1) := by decide +kernel
theorem dX9_text_11 : decode cX9_text 11 = .ok (.putfield 245, 3) := by decide +kernel
theorem dX9_text_14 : decode cX9_text 14 = .ok (.aload_n 0, 1) := by decide +kernel
theorem dX9_text_15 : decode cX9_text 15 = .ok (.invokevirtual 249, 3) := by decide +kernel
theorem dX9_text_18 : decode cX9_text 18 = .ok (.iconst 1, 1) := by decide +kernel
theorem dX9_text_19 : decode cX9_text 19 = .ok (.istore_n 1, 1) := by decide +kernel
theorem dX9_text_20 : decode cX9_text 20 = .ok (.aload_n 0, 1) := by decide +kernel
theorem dX9_text_21 : decode cX9_text 21 = .ok (.invokevirtual 322, 3) := by decide +kernel
theorem dX9_text_24 : decode cX9_text 24 = .ok (.aload_n 0, 1) := by decide +kernel
theorem dX9_text_25 : decode cX9_text 25 = .ok (.getfield 245, 3) := by decide +kernel
theorem dX9_text_28 : decode cX9_text 28 = .ok (.ifCond .ne 46, 3) := by decide +kernel
theorem dX9_text_31 : decode cX9_text 31 = .ok (.aload_n 0, 1) := by decide +kernel
theorem dX9_text_32 : decode cX9_text 32 = .ok (.getfield 233, 3) := by decide +kernel
theorem dX9_text_35 : decode cX9_text 35 = .ok (.aload_n 0, 1) := by decide +kernel
theorem dX9_text_36 : decode cX9_text 36 = .ok (.getfield 218, 3) := by decide +kernel
theorem dX9_text_39 : decode cX9_text 39 = .ok (.if_icmp .ge 35, 3) := by decide +kernel
theorem dX9_text_42 : decode cX9_text 42 = .ok (.aload_n 0, 1) := by decide +kernel
theorem dX9_text_43 : decode cX9_text 43 = .ok (.aload_n 0, 1) := by decide +kernel
theorem dX9_text_44 : decode cX9_text 44 = .ok (.aload_n 0, 1) := by decide +kernel
theorem dX9_text_45 : decode cX9_text 45 = .ok (.getfield 233, 3) := by decide +kernel
theorem dX9_text_48 : decode cX9_text 48 = .ok (.invokevirtual 236, 3) := by decide +kernel
theorem dX9_text_51 : decode cX9_text 51 = .ok (.bipush 59, 2) := by decide +kernel
theorem dX9_text_53 : decode cX9_text 53 = .ok (.if_icmp .ne 7, 3) := by decide +kernel
theorem dX9_text_56 : decode cX9_text 56 = .ok (.iconst 1, 1) := by decide +kernel
theorem dX9_text_57 : decode cX9_text 57 = .ok (.goto 4, 3) := by decide +kernel
theorem dX9_text_60 : decode cX9_text 60 = .ok (.iconst 0, 1) := by decide +kernel
theorem dX9_text_61 : decode cX9_text 61 = .ok (.invokevirtual 259, 3) := by decide +kernel
theorem dX9_text_64 : decode cX9_text 64 = .ok (.aload_n 0, 1) := by decide +kernel
theorem dX9_text_65 : decode cX9_text 65 = .ok (.invokevirtual 322, 3) := by decide +kernel
theorem dX9_text_68 : decode cX9_text 68 = .ok (.iinc 1 1, 3) := by decide +kernel
theorem dX9_text_71 : decode cX9_text 71 = .ok (.goto (-47), 3) := by decide +kernel
theorem dX9_text_74 : decode cX9_text 74 = .ok (.aload_n 0, 1) := by decide +kernel
theorem dX9_text_75 : decode cX9_text 75 = .ok (.iconst 0, 1) := by decide +kernel
theorem dX9_text_76 : decode cX9_text 76 = .ok (.putfield 218, 3) := by decide +kernel
theorem dX9_text_79 : decode cX9_text 79 = .ok (.aload_n 0, 1) := by decide +kernel
theorem dX9_text_80 : decode cX9_text 80 = .ok (.getfield 245, 3) := by decide +kernel
theorem dX9_text_83 : decode cX9_text 83 = .ok (.ifCond .eq 14, 3) := by decide +kernel
theorem dX9_text_86 : decode cX9_text 86 = .ok (.aload_n 0, 1) := by decide +kernel
theorem dX9_text_87 : decode cX9_text 87 = .ok (.invokevirtual 188, 3) := by decide +kernel
theorem dX9_text_90 : decode cX9_text 90 = .ok (.iconst (-1), 1) := by decide +kernel
theorem dX9_text_91 : decode cX9_text 91 = .ok (.aload_n 0, 1) := by decide +kernel
theorem dX9_text_92 : decode cX9_text 92 = .ok (.getfield 233, 3) := by decide +kernel
theorem dX9_text_95 : decode cX9_text 95 = .ok (.isub, 1) := by decide +kernel
theorem dX9_text_96 : decode cX9_text 96 = .ok (.ireturn, 1) := by decide +kernel
theorem dX9_text_97 : decode cX9_text 97 = .ok (.iload_n 1, 1) := by decide +kernel
theorem dX9_text_98 : decode cX9_text 98 = .ok (.ireturn, 1) := by decide +kernel
theorem dX9_hold_0 : decode cX9_hold 0 = .ok (.iload_n 1, 1) := by decide +kernel
theorem dX9_hold_1 : decode cX9_hold 1 = .ok (.i2l, 1) := by decide +kernel
theorem dX9_hold_2 : decode cX9_hold 2 = .ok (.lconst 0, 1) := by decide +kernel
theorem dX9_hold_3 : decode cX9_hold 3 = .ok (.ldc2_w 78, 3) := by decide +kernel
theorem dX9_hold_6 : decode cX9_hold 6 = .ok (.invokestatic 38, 3) := by decide +kernel
theorem dX9_hold_9 : decode cX9_hold 9 = .ok (.ifCond .eq 16, 3) := by decide +kernel
theorem dX9_hold_12 : decode cX9_hold 12 = .ok (.iload_n 2, 1) := by decide +kernel
theorem dX9_hold_13 : decode cX9_hold 13 = .ok (.iconst (-1), 1) := by decide +kernel
theorem dX9_hold_14 : decode cX9_hold 14 = .ok (.if_icmp .eq 18, 3) := by decide +kernel
theorem dX9_hold_17 : decode cX9_hold 17 = .ok (.aload_n 0, 1) := by decide +kernel
theorem dX9_hold_18 : decode cX9_hold 18 = .ok (.iload_n 2, 1) := by decide +kernel
theorem dX9_hold_19 : decode cX9_hold 19 = .ok (.invokevirtual 66, 3) := by decide +kernel
theorem dX9_hold_22 : decode cX9_hold 22 = .ok (.ifCond .ne 10, 3) := by decide +kernel
theorem dX9_hold_25 : decode cX9_hold 25 = .ok (.aload_n 0, 1) := by decide +kernel
theorem dX9_hold_26 : decode cX9_hold 26 = .ok (.ldc 37, 2) := by decide +kernel
theorem dX9_hold_28 : decode cX9_hold 28 = .ok (.invokevirtual 51, 3) := by decide +kernel
theorem dX9_hold_31 : decode cX9_hold 31 = .ok (.ireturn, 1) := by decide +kernel
theorem dX9_hold_32 : decode cX9_hold 32 = .ok (.aload_n 0, 1) := by decide +kernel
theorem dX9_hold_33 : decode cX9_hold 33 = .ok (.getfield 7, 3) := by decide +kernel
theorem dX9_hold_36 : decode cX9_hold 36 = .ok (.bipush 106, 2) := by decide +kernel
theorem dX9_hold_38 : decode cX9_hold 38 = .ok (.iload_n 1, 1) := by decide +kernel
theorem dX9_hold_39 : decode cX9_hold 39 = .ok (.iadd, 1) := by decide +kernel
theorem dX9_hold_40 : decode cX9_hold 40 = .ok (.iload_n 2, 1) := by decide +kernel
theorem dX9_hold_41 : decode cX9_hold 41 = .ok (.iastore, 1) := by decide +kernel
theorem dX9_hold_42 : decode cX9_hold 42 = .ok (.iconst 1, 1) := by decide +kernel
theorem dX9_hold_43 : decode cX9_hold 43 = .ok (.ireturn, 1) := by decide +kernel
theorem dX9_as_0 : decode cX9_as 0 = .ok (.iload_n 1, 1) := by decide +kernel
theorem dX9_as_1 : decode cX9_as 1 = .ok (.i2l, 1) := by decide +kernel
theorem dX9_as_2 : decode cX9_as 2 = .ok (.lconst 0, 1) := by decide +kernel
theorem dX9_as_3 : decode cX9_as 3 = .ok (.ldc2_w 78, 3) := by decide +kernel
theorem dX9_as_6 : decode cX9_as 6 = .ok (.invokestatic 38, 3) := by decide +kernel
theorem dX9_as_9 : decode cX9_as 9 = .ok (.ifCond .eq 15, 3) := by decide +kernel
theorem dX9_as_12 : decode cX9_as 12 = .ok (.iload_n 2, 1) := by decide +kernel
theorem dX9_as_13 : decode cX9_as 13 = .ok (.i2l, 1) := by decide +kernel
theorem dX9_as_14 : decode cX9_as 14 = .ok (.lconst 0, 1) := by decide +kernel
theorem dX9_as_15 : decode cX9_as 15 = .ok (.ldc2_w 49, 3) := by decide +kernel
theorem dX9_as_18 : decode cX9_as 18 = .ok (.invokestatic 38, 3) := by decide +kernel
theorem dX9_as_21 : decode cX9_as 21 = .ok (.ifCond .ne 10, 3) := by decide +kernel
theorem dX9_as_24 : decode cX9_as 24 = .ok (.aload_n 0, 1) := by decide +kernel
theorem dX9_as_25 : decode cX9_as 25 = .ok (.ldc 37, 2) := by decide +kernel
theorem dX9_as_27 : decode cX9_as 27 = .ok (.invokevirtual 51, 3) := by decide +kernel
theorem dX9_as_30 : decode cX9_as 30 = .ok (.ireturn, 1) := by decide +kernel
theorem dX9_as_31 : decode cX9_as 31 = .ok (.aload_n 0, 1) := by decide +kernel
theorem dX9_as_32 : decode cX9_as 32 = .ok (.getfield 7, 3) := by decide +kernel
theorem dX9_as_35 : decode cX9_as 35 = .ok (.bipush 106, 2) := by decide +kernel
theorem dX9_as_37 : decode cX9_as 37 = .ok (.iload_n 1, 1) := by decide +kernel
theorem dX9_as_38 : decode cX9_as 38 = .ok (.iadd, 1) := by decide +kernel
theorem dX9_as_39 : decode cX9_as 39 = .ok (.iaload, 1) := by decide +kernel
theorem dX9_as_40 : decode cX9_as 40 = .ok (.istore_n 3, 1) := by decide +kernel
theorem dX9_as_41 : decode cX9_as 41 = .ok (.iload_n 3, 1) := by decide +kernel
theorem dX9_as_42 : decode cX9_as 42 = .ok (.ifCond .ge 11, 3) := by decide +kernel
theorem dX9_as_45 : decode cX9_as 45 = .ok (.aload_n 0, 1) := by decide +kernel
theorem dX9_as_46 : decode cX9_as 46 = .ok (.ldc_w 325, 3) := by decide +kernel
theorem dX9_as_49 : decode cX9_as 49 = .ok (.invokevirtual 51, 3) := by decide +kernel
theorem dX9_as_52 : decode cX9_as 52 = .ok (.ireturn, 1) := by decide +kernel
theorem dX9_as_53 : decode cX9_as 53 = .ok (.aload_n 0, 1) := by decide +kernel
theorem dX9_as_54 : decode cX9_as 54 = .ok (.iload_n 3, 1) := by decide +kernel
theorem dX9_as_55 : decode cX9_as 55 = .ok (.iconst 0, 1) := by decide +kernel
theorem dX9_as_56 : decode cX9_as 56 = .ok (.invokevirtual 60, 3) := by decide +kernel
theorem dX9_as_59 : decode cX9_as 59 = .ok (.istore 4, 2) := by decide +kernel
theorem dX9_as_61 : decode cX9_as 61 = .ok (.iload_n 2, 1) := by decide +kernel
theorem dX9_as_62 : decode cX9_as 62 = .ok (.ifCond .eq 43, 3) := by decide +kernel
theorem dX9_as_65 : decode cX9_as 65 = .ok (.iload 4, 2) := by decide +kernel
theorem dX9_as_67 : decode cX9_as 67 = .ok (.iload_n 2, 1) := by decide +kernel
theorem dX9_as_68 : decode cX9_as 68 = .ok (.if_icmp .eq 37, 3) := by decide +kernel
theorem dX9_as_71 : decode cX9_as 71 = .ok (.iload_n 2, 1) := by decide +kernel
theorem dX9_as_72 : decode cX9_as 72 = .ok (.iconst 1, 1) := by decide +kernel
theorem dX9_as_73 : decode cX9_as 73 = .ok (.if_icmp .ne 9, 3) := by decide +kernel
theorem dX9_as_76 : decode cX9_as 76 = .ok (.iload 4, 2) := by decide +kernel
theorem dX9_as_78 : decode cX9_as 78 = .ok (.iconst 3, 1) := by decide +kernel
theorem dX9_as_79 : decode cX9_as 79 = .ok (.if_icmp .eq 26, 3) := by decide +kernel
theorem dX9_as_82 : decode cX9_as 82 = .ok (.iload_n 2, 1) := by decide +kernel
theorem dX9_as_83 : decode cX9_as 83 = .ok (.iconst 2, 1) := by decide +kernel
theorem dX9_as_84 : decode cX9_as 84 = .ok (.if_icmp .ne 9, 3) := by decide +kernel
theorem dX9_as_87 : decode cX9_as 87 = .ok (.iload 4, 2) := by decide +kernel
theorem dX9_as_89 : decode cX9_as 89 = .ok (.iconst 4, 1) := by decide +kernel
theorem dX9_as_90 : decode cX9_as 90 = .ok (.if_icmp .eq 15, 3) := by decide +kernel
theorem dX9_as_93 : decode cX9_as 93 = .ok (.iload_n 2, 1) := by decide +kernel
theorem dX9_as_94 : decode cX9_as 94 = .ok (.iconst 5, 1) := by decide +kernel
theorem dX9_as_95 : decode cX9_as 95 = .ok (.if_icmp .ne 14, 3) := by decide +kernel
theorem dX9_as_98 : decode cX9_as 98 = .ok (.iload 4, 2) := by decide +kernel
theorem dX9_as_100 : decode cX9_as 100 = .ok (.bipush 6, 2) := by decide +kernel
theorem dX9_as_102 : decode cX9_as 102 = .ok (.if_icmp .ne 7, 3) := by decide +kernel
theorem dX9_as_105 : decode cX9_as 105 = .ok (.iconst 1, 1) := by decide +kernel
theorem dX9_as_106 : decode cX9_as 106 = .ok (.goto 4, 3) := by decide +kernel
theorem dX9_as_109 : decode cX9_as 109 = .ok (.iconst 0, 1) := by decide +kernel
theorem dX9_as_110 : decode cX9_as 110 = .ok (.istore 5, 2) := by decide +kernel
theorem dX9_as_112 : decode cX9_as 112 = .ok (.iload 5, 2) := by decide +kernel
theorem dX9_as_114 : decode cX9_as 114 = .ok (.ifCond .eq 7, 3) := by decide +kernel
theorem dX9_as_117 : decode cX9_as 117 = .ok (.iload_n 3, 1) := by decide +kernel
theorem dX9_as_118 : decode cX9_as 118 = .ok (.goto 10, 3) := by decide +kernel
theorem dX9_as_121 : decode cX9_as 121 = .ok (.aload_n 0, 1) := by decide +kernel
theorem dX9_as_122 : decode cX9_as 122 = .ok (.ldc_w 326, 3) := by decide +kernel
theorem dX9_as_125 : decode cX9_as 125 = .ok (.invokevirtual 51, 3) := by decide +kernel
theorem dX9_as_128 : decode cX9_as 128 = .ok (.ireturn, 1) := by decide +kernel
theorem dX9_isOne_0 : decode cX9_isOne 0 = .ok (.iload_n 0, 1) := by decide +kernel
theorem dX9_isOne_1 : decode cX9_isOne 1 = .ok (.i2l, 1) := by decide +kernel
theorem dX9_isOne_2 : decode cX9_isOne 2 = .ok (.lconst 0, 1) := by decide +kernel
theorem dX9_isOne_3 : decode cX9_isOne 3 = .ok (.ldc2_w 42, 3) := by decide +kernel
theorem dX9_isOne_6 : decode cX9_isOne 6 = .ok (.invokestatic 38, 3) := by decide +kernel
theorem dX9_isOne_9 : decode cX9_isOne 9 = .ok (.ireturn, 1) := by decide +kernel
theorem dX9_sheet_0 : decode cX9_sheet 0 = .ok (.iload_n 1, 1) := by decide +kernel
theorem dX9_sheet_1 : decode cX9_sheet 1 = .ok (.invokestatic 327, 3) := by decide +kernel
theorem dX9_sheet_4 : decode cX9_sheet 4 = .ok (.ifCond .eq 25, 3) := by decide +kernel
theorem dX9_sheet_7 : decode cX9_sheet 7 = .ok (.iload_n 2, 1) := by decide +kernel
theorem dX9_sheet_8 : decode cX9_sheet 8 = .ok (.ifCond .eq 28, 3) := by decide +kernel
theorem dX9_sheet_11 : decode cX9_sheet 11 = .ok (.iload_n 2, 1) := by decide +kernel
theorem dX9_sheet_12 : decode cX9_sheet 12 = .ok (.bipush 8, 2) := by decide +kernel
theorem dX9_sheet_14 : decode cX9_sheet 14 = .ok (.if_icmp .eq 22, 3) := by decide +kernel
theorem dX9_sheet_17 : decode cX9_sheet 17 = .ok (.iload_n 2, 1) := by decide +kernel
theorem dX9_sheet_18 : decode cX9_sheet 18 = .ok (.bipush 16, 2) := by decide +kernel
theorem dX9_sheet_20 : decode cX9_sheet 20 = .ok (.if_icmp .eq 16, 3) := by decide +kernel
theorem dX9_sheet_23 : decode cX9_sheet 23 = .ok (.iload_n 2, 1) := by decide +kernel
theorem dX9_sheet_24 : decode cX9_sheet 24 = .ok (.bipush 32, 2) := by decide +kernel
theorem dX9_sheet_26 : decode cX9_sheet 26 = .ok (.if_icmp .eq 10, 3) := by decide +kernel
theorem dX9_sheet_29 : decode cX9_sheet 29 = .ok (.aload_n 0, 1) := by decide +kernel
theorem dX9_sheet_30 : decode cX9_sheet 30 = .ok (.ldc 37, 2) := by decide +kernel
theorem dX9_sheet_32 : decode cX9_sheet 32 = .ok (.invokevirtual 51, 3) := by decide +kernel
theorem dX9_sheet_35 : decode cX9_sheet 35 = .ok (.ireturn, 1) := by decide +kernel
theorem dX9_sheet_36 : decode cX9_sheet 36 = .ok (.iload_n 3, 1) := by decide +kernel
theorem dX9_sheet_37 : decode cX9_sheet 37 = .ok (.ifCond .ge 11, 3) := by decide +kernel
theorem dX9_sheet_40 : decode cX9_sheet 40 = .ok (.aload_n 0, 1) := by decide +kernel
theorem dX9_sheet_41 : decode cX9_sheet 41 = .ok (.ldc_w 330, 3) := by decide +kernel
theorem dX9_sheet_44 : decode cX9_sheet 44 = .ok (.invokevirtual 51, 3) := by decide +kernel
theorem dX9_sheet_47 : decode cX9_sheet 47 = .ok (.ireturn, 1) := by decide +kernel
theorem dX9_sheet_48 : decode cX9_sheet 48 = .ok (.iload_n 3, 1) := by decide +kernel
theorem dX9_sheet_49 : decode cX9_sheet 49 = .ok (.bipush 40, 2) := by decide +kernel
theorem dX9_sheet_51 : decode cX9_sheet 51 = .ok (.if_icmp .le 10, 3) := by decide +kernel
theorem dX9_sheet_54 : decode cX9_sheet 54 = .ok (.aload_n 0, 1) := by decide +kernel
theorem dX9_sheet_55 : decode cX9_sheet 55 = .ok (.ldc 37, 2) := by decide +kernel
theorem dX9_sheet_57 : decode cX9_sheet 57 = .ok (.invokevirtual 51, 3) := by decide +kernel
theorem dX9_sheet_60 : decode cX9_sheet 60 = .ok (.ireturn, 1) := by decide +kernel
theorem dX9_sheet_61 : decode cX9_sheet 61 = .ok (.aload_n 0, 1) := by decide +kernel
theorem dX9_sheet_62 : decode cX9_sheet 62 = .ok (.getfield 25, 3) := by decide +kernel
theorem dX9_sheet_65 : decode cX9_sheet 65 = .ok (.iload_n 1, 1) := by decide +kernel
theorem dX9_sheet_66 : decode cX9_sheet 66 = .ok (.iload_n 2, 1) := by decide +kernel
theorem dX9_sheet_67 : decode cX9_sheet 67 = .ok (.iastore, 1) := by decide +kernel
theorem dX9_sheet_68 : decode cX9_sheet 68 = .ok (.aload_n 0, 1) := by decide +kernel
theorem dX9_sheet_69 : decode cX9_sheet 69 = .ok (.getfield 28, 3) := by decide +kernel
theorem dX9_sheet_72 : decode cX9_sheet 72 = .ok (.iload_n 1, 1) := by decide +kernel
theorem dX9_sheet_73 : decode cX9_sheet 73 = .ok (.iload_n 2, 1) := by decide +kernel
theorem dX9_sheet_74 : decode cX9_sheet 74 = .ok (.ifCond .ne 7, 3) := by decide +kernel
theorem dX9_sheet_77 : decode cX9_sheet 77 = .ok (.iconst 0, 1) := by decide +kernel
theorem dX9_sheet_78 : decode cX9_sheet 78 = .ok (.goto 4, 3) := by decide +kernel
theorem dX9_sheet_81 : decode cX9_sheet 81 = .ok (.iload_n 3, 1) := by decide +kernel
theorem dX9_sheet_82 : decode cX9_sheet 82 = .ok (.iastore, 1) := by decide +kernel
theorem dX9_sheet_83 : decode cX9_sheet 83 = .ok (.iconst 0, 1) := by decide +kernel
theorem dX9_sheet_84 : decode cX9_sheet 84 = .ok (.istore 4, 2) := by decide +kernel
theorem dX9_sheet_86 : decode cX9_sheet 86 = .ok (.iload 4, 2) := by decide +kernel
theorem dX9_sheet_88 : decode cX9_sheet 88 = .ok (.bipush 40, 2) := by decide +kernel
theorem dX9_sheet_90 : decode cX9_sheet 90 = .ok (.if_icmp .ge 22, 3) := by decide +kernel
theorem dX9_sheet_93 : decode cX9_sheet 93 = .ok (.aload_n 0, 1) := by decide +kernel
theorem dX9_sheet_94 : decode cX9_sheet 94 = .ok (.getfield 31, 3) := by decide +kernel
theorem dX9_sheet_97 : decode cX9_sheet 97 = .ok (.bipush 40, 2) := by decide +kernel
theorem dX9_sheet_99 : decode cX9_sheet 99 = .ok (.iload_n 1, 1) := by decide +kernel
theorem dX9_sheet_100 : decode cX9_sheet 100 = .ok (.imul, 1) := by decide +kernel
theorem dX9_sheet_101 : decode cX9_sheet 101 = .ok (.iload 4, 2) := by decide +kernel
theorem dX9_sheet_103 : decode cX9_sheet 103 = .ok (.iadd, 1) := by decide +kernel
theorem dX9_sheet_104 : decode cX9_sheet 104 = .ok (.iconst 0, 1) := by decide +kernel
theorem dX9_sheet_105 : decode cX9_sheet 105 = .ok (.iastore, 1) := by decide +kernel
theorem dX9_sheet_106 : decode cX9_sheet 106 = .ok (.iinc 4 1, 3) := by decide +kernel
theorem dX9_sheet_109 : decode cX9_sheet 109 = .ok (.goto (-23), 3) := by decide +kernel
theorem dX9_sheet_112 : decode cX9_sheet 112 = .ok (.aload_n 0, 1) := by decide +kernel
theorem dX9_sheet_113 : decode cX9_sheet 113 = .ok (.getfield 28, 3) := by decide +kernel
theorem dX9_sheet_116 : decode cX9_sheet 116 = .ok (.iload_n 1, 1) := by decide +kernel
theorem dX9_sheet_117 : decode cX9_sheet 117 = .ok (.iaload, 1) := by decide +kernel
theorem dX9_sheet_118 : decode cX9_sheet 118 = .ok (.ireturn, 1) := by decide +kernel
theorem dX9_narrowed_0 : decode cX9_narrowed 0 = .ok (.iload_n 0, 1) := by decide +kernel
theorem dX9_narrowed_1 : decode cX9_narrowed 1 = .ok (.bipush 8, 2) := by decide +kernel
theorem dX9_narrowed_3 : decode cX9_narrowed 3 = .ok (.if_icmp .ne 8, 3) := by decide +kernel
theorem dX9_narrowed_6 : decode cX9_narrowed 6 = .ok (.iload_n 1, 1) := by decide +kernel
theorem dX9_narrowed_7 : decode cX9_narrowed 7 = .ok (.i2b, 1) := by decide +kernel
theorem dX9_narrowed_8 : decode cX9_narrowed 8 = .ok (.goto 15, 3) := by decide +kernel
theorem dX9_narrowed_11 : decode cX9_narrowed 11 = .ok (.iload_n 0, 1) := by decide +kernel
theorem dX9_narrowed_12 : decode cX9_narrowed 12 = .ok (.bipush 16, 2) := by decide +kernel
theorem dX9_narrowed_14 : decode cX9_narrowed 14 = .ok (.if_icmp .ne 8, 3) := by decide +kernel
theorem dX9_narrowed_17 : decode cX9_narrowed 17 = .ok (.iload_n 1, 1) := by decide +kernel
theorem dX9_narrowed_18 : decode cX9_narrowed 18 = .ok (.i2s, 1) := by decide +kernel
theorem dX9_narrowed_19 : decode cX9_narrowed 19 = .ok (.goto 4, 3) := by decide +kernel
theorem dX9_narrowed_22 : decode cX9_narrowed 22 = .ok (.iload_n 1, 1) := by decide +kernel
theorem dX9_narrowed_23 : decode cX9_narrowed 23 = .ok (.ireturn, 1) := by decide +kernel
theorem dX9_wrong_0 : decode cX9_wrong 0 = .ok (.iload_n 1, 1) := by decide +kernel
theorem dX9_wrong_1 : decode cX9_wrong 1 = .ok (.invokestatic 327, 3) := by decide +kernel
theorem dX9_wrong_4 : decode cX9_wrong 4 = .ok (.ifCond .ne 8, 3) := by decide +kernel
theorem dX9_wrong_7 : decode cX9_wrong 7 = .ok (.ldc 37, 2) := by decide +kernel
theorem dX9_wrong_9 : decode cX9_wrong 9 = .ok (.goto 19, 3) := by decide +kernel
theorem dX9_wrong_12 : decode cX9_wrong 12 = .ok (.aload_n 0, 1) := by decide +kernel
theorem dX9_wrong_13 : decode cX9_wrong 13 = .ok (.getfield 25, 3) := by decide +kernel
theorem dX9_wrong_16 : decode cX9_wrong 16 = .ok (.iload_n 1, 1) := by decide +kernel
theorem dX9_wrong_17 : decode cX9_wrong 17 = .ok (.iaload, 1) := by decide +kernel
theorem dX9_wrong_18 : decode cX9_wrong 18 = .ok (.ifCond .ne 9, 3) := by decide +kernel
theorem dX9_wrong_21 : decode cX9_wrong 21 = .ok (.ldc_w 325, 3) := by decide +kernel
theorem dX9_wrong_24 : decode cX9_wrong 24 = .ok (.goto 4, 3) := by decide +kernel
theorem dX9_wrong_27 : decode cX9_wrong 27 = .ok (.iconst 0, 1) := by decide +kernel
theorem dX9_wrong_28 : decode cX9_wrong 28 = .ok (.ireturn, 1) := by decide +kernel
theorem dX9_write_0 : decode cX9_write 0 = .ok (.aload_n 0, 1) := by decide +kernel
theorem dX9_write_1 : decode cX9_write 1 = .ok (.iload_n 1, 1) := by decide +kernel
theorem dX9_write_2 : decode cX9_write 2 = .ok (.invokevirtual 331, 3) := by decide +kernel
theorem dX9_write_5 : decode cX9_write 5 = .ok (.istore 4, 2) := by decide +kernel
theorem dX9_write_7 : decode cX9_write 7 = .ok (.iload 4, 2) := by decide +kernel
theorem dX9_write_9 : decode cX9_write 9 = .ok (.ifCond .eq 10, 3) := by decide +kernel
theorem dX9_write_12 : decode cX9_write 12 = .ok (.aload_n 0, 1) := by decide +kernel
theorem dX9_write_13 : decode cX9_write 13 = .ok (.iload 4, 2) := by decide +kernel
theorem dX9_write_15 : decode cX9_write 15 = .ok (.invokevirtual 51, 3) := by decide +kernel
theorem dX9_write_18 : decode cX9_write 18 = .ok (.ireturn, 1) := by decide +kernel
theorem dX9_write_19 : decode cX9_write 19 = .ok (.iload_n 2, 1) := by decide +kernel
theorem dX9_write_20 : decode cX9_write 20 = .ok (.i2l, 1) := by decide +kernel
theorem dX9_write_21 : decode cX9_write 21 = .ok (.lconst 0, 1) := by decide +kernel
theorem dX9_write_22 : decode cX9_write 22 = .ok (.aload_n 0, 1) := by decide +kernel
theorem dX9_write_23 : decode cX9_write 23 = .ok (.getfield 28, 3) := by decide +kernel
theorem dX9_write_26 : decode cX9_write 26 = .ok (.iload_n 1, 1) := by decide +kernel
theorem dX9_write_27 : decode cX9_write 27 = .ok (.iaload, 1) := by decide +kernel
theorem dX9_write_28 : decode cX9_write 28 = .ok (.iconst 1, 1) := by decide +kernel
theorem dX9_write_29 : decode cX9_write 29 = .ok (.isub, 1) := by decide +kernel
theorem dX9_write_30 : decode cX9_write 30 = .ok (.i2l, 1) := by decide +kernel
theorem dX9_write_31 : decode cX9_write 31 = .ok (.invokestatic 38, 3) := by decide +kernel
theorem dX9_write_34 : decode cX9_write 34 = .ok (.ifCond .ne 10, 3) := by decide +kernel
theorem dX9_write_37 : decode cX9_write 37 = .ok (.aload_n 0, 1) := by decide +kernel
theorem dX9_write_38 : decode cX9_write 38 = .ok (.ldc 37, 2) := by decide +kernel
theorem dX9_write_40 : decode cX9_write 40 = .ok (.invokevirtual 51, 3) := by decide +kernel
theorem dX9_write_43 : decode cX9_write 43 = .ok (.ireturn, 1) := by decide +kernel
theorem dX9_write_44 : decode cX9_write 44 = .ok (.aload_n 0, 1) := by decide +kernel
theorem dX9_write_45 : decode cX9_write 45 = .ok (.getfield 31, 3) := by decide +kernel
theorem dX9_write_48 : decode cX9_write 48 = .ok (.bipush 40, 2) := by decide +kernel
theorem dX9_write_50 : decode cX9_write 50 = .ok (.iload_n 1, 1) := by decide +kernel
theorem dX9_write_51 : decode cX9_write 51 = .ok (.imul, 1) := by decide +kernel
theorem dX9_write_52 : decode cX9_write 52 = .ok (.iload_n 2, 1) := by decide +kernel
theorem dX9_write_53 : decode cX9_write 53 = .ok (.iadd, 1) := by decide +kernel
theorem dX9_write_54 : decode cX9_write 54 = .ok (.aload_n 0, 1) := by decide +kernel
theorem dX9_write_55 : decode cX9_write 55 = .ok (.getfield 25, 3) := by decide +kernel
theorem dX9_write_58 : decode cX9_write 58 = .ok (.iload_n 1, 1) := by decide +kernel
theorem dX9_write_59 : decode cX9_write 59 = .ok (.iaload, 1) := by decide +kernel
theorem dX9_write_60 : decode cX9_write 60 = .ok (.iload_n 3, 1) := by decide +kernel
theorem dX9_write_61 : decode cX9_write 61 = .ok (.invokestatic 334, 3) := by decide +kernel
theorem dX9_write_64 : decode cX9_write 64 = .ok (.iastore, 1) := by decide +kernel
theorem dX9_write_65 : decode cX9_write 65 = .ok (.iconst 1, 1) := by decide +kernel
theorem dX9_write_66 : decode cX9_write 66 = .ok (.ireturn, 1) := by decide +kernel
theorem dX9_copy_0 : decode cX9_copy 0 = .ok (.iload_n 1, 1) := by decide +kernel
theorem dX9_copy_1 : decode cX9_copy 1 = .ok (.invokestatic 327, 3) := by decide +kernel
theorem dX9_copy_4 : decode cX9_copy 4 = .ok (.ifCond .eq 10, 3) := by decide +kernel
theorem dX9_copy_7 : decode cX9_copy 7 = .ok (.iload_n 3, 1) := by decide +kernel
theorem dX9_copy_8 : decode cX9_copy 8 = .ok (.invokestatic 327, 3) := by decide +kernel
theorem dX9_copy_11 : decode cX9_copy 11 = .ok (.ifCond .ne 10, 3) := by decide +kernel
theorem dX9_copy_14 : decode cX9_copy 14 = .ok (.aload_n 0, 1) := by decide +kernel
theorem dX9_copy_15 : decode cX9_copy 15 = .ok (.ldc 37, 2) := by decide +kernel
theorem dX9_copy_17 : decode cX9_copy 17 = .ok (.invokevirtual 51, 3) := by decide +kernel
theorem dX9_copy_20 : decode cX9_copy 20 = .ok (.ireturn, 1) := by decide +kernel
theorem dX9_copy_21 : decode cX9_copy 21 = .ok (.aload_n 0, 1) := by decide +kernel
theorem dX9_copy_22 : decode cX9_copy 22 = .ok (.getfield 25, 3) := by decide +kernel
theorem dX9_copy_25 : decode cX9_copy 25 = .ok (.iload_n 1, 1) := by decide +kernel
theorem dX9_copy_26 : decode cX9_copy 26 = .ok (.iaload, 1) := by decide +kernel
theorem dX9_copy_27 : decode cX9_copy 27 = .ok (.ifCond .eq 12, 3) := by decide +kernel
theorem dX9_copy_30 : decode cX9_copy 30 = .ok (.aload_n 0, 1) := by decide +kernel
theorem dX9_copy_31 : decode cX9_copy 31 = .ok (.getfield 25, 3) := by decide +kernel
theorem dX9_copy_34 : decode cX9_copy 34 = .ok (.iload_n 3, 1) := by decide +kernel
theorem dX9_copy_35 : decode cX9_copy 35 = .ok (.iaload, 1) := by decide +kernel
theorem dX9_copy_36 : decode cX9_copy 36 = .ok (.ifCond .ne 11, 3) := by decide +kernel
theorem dX9_copy_39 : decode cX9_copy 39 = .ok (.aload_n 0, 1) := by decide +kernel
theorem dX9_copy_40 : decode cX9_copy 40 = .ok (.ldc_w 325, 3) := by decide +kernel
theorem dX9_copy_43 : decode cX9_copy 43 = .ok (.invokevirtual 51, 3) := by decide +kernel
theorem dX9_copy_46 : decode cX9_copy 46 = .ok (.ireturn, 1) := by decide +kernel
theorem dX9_copy_47 : decode cX9_copy 47 = .ok (.aload_n 0, 1) := by decide +kernel
theorem dX9_copy_48 : decode cX9_copy 48 = .ok (.getfield 25, 3) := by decide +kernel
theorem dX9_copy_51 : decode cX9_copy 51 = .ok (.iload_n 1, 1) := by decide +kernel
theorem dX9_copy_52 : decode cX9_copy 52 = .ok (.iaload, 1) := by decide +kernel
theorem dX9_copy_53 : decode cX9_copy 53 = .ok (.aload_n 0, 1) := by decide +kernel
theorem dX9_copy_54 : decode cX9_copy 54 = .ok (.getfield 25, 3) := by decide +kernel
theorem dX9_copy_57 : decode cX9_copy 57 = .ok (.iload_n 3, 1) := by decide +kernel
theorem dX9_copy_58 : decode cX9_copy 58 = .ok (.iaload, 1) := by decide +kernel
theorem dX9_copy_59 : decode cX9_copy 59 = .ok (.if_icmp .eq 11, 3) := by decide +kernel
theorem dX9_copy_62 : decode cX9_copy 62 = .ok (.aload_n 0, 1) := by decide +kernel
theorem dX9_copy_63 : decode cX9_copy 63 = .ok (.ldc_w 326, 3) := by decide +kernel
theorem dX9_copy_66 : decode cX9_copy 66 = .ok (.invokevirtual 51, 3) := by decide +kernel
theorem dX9_copy_69 : decode cX9_copy 69 = .ok (.ireturn, 1) := by decide +kernel
theorem dX9_copy_70 : decode cX9_copy 70 = .ok (.iload_n 2, 1) := by decide +kernel
theorem dX9_copy_71 : decode cX9_copy 71 = .ok (.ifCond .lt 40, 3) := by decide +kernel
theorem dX9_copy_74 : decode cX9_copy 74 = .ok (.iload 4, 2) := by decide +kernel
theorem dX9_copy_76 : decode cX9_copy 76 = .ok (.ifCond .lt 35, 3) := by decide +kernel
theorem dX9_copy_79 : decode cX9_copy 79 = .ok (.iload 5, 2) := by decide +kernel
theorem dX9_copy_81 : decode cX9_copy 81 = .ok (.ifCond .lt 30, 3) := by decide +kernel
theorem dX9_copy_84 : decode cX9_copy 84 = .ok (.iload 5, 2) := by decide +kernel
theorem dX9_copy_86 : decode cX9_copy 86 = .ok (.aload_n 0, 1) := by decide +kernel
theorem dX9_copy_87 : decode cX9_copy 87 = .ok (.getfield 28, 3) := by decide +kernel
theorem dX9_copy_90 : decode cX9_copy 90 = .ok (.iload_n 1, 1) := by decide +kernel
theorem dX9_copy_91 : decode cX9_copy 91 = .ok (.iaload, 1) := by decide +kernel
theorem dX9_copy_92 : decode cX9_copy 92 = .ok (.iload_n 2, 1) := by decide +kernel
theorem dX9_copy_93 : decode cX9_copy 93 = .ok (.isub, 1) := by decide +kernel
theorem dX9_copy_94 : decode cX9_copy 94 = .ok (.if_icmp .gt 17, 3) := by decide +kernel
theorem dX9_copy_97 : decode cX9_copy 97 = .ok (.iload 5, 2) := by decide +kernel
theorem dX9_copy_99 : decode cX9_copy 99 = .ok (.aload_n 0, 1) := by decide +kernel
theorem dX9_copy_100 : decode cX9_copy 100 = .ok (.getfield 28, 3) := by decide +kernel
theorem dX9_copy_103 : decode cX9_copy 103 = .ok (.iload_n 3, 1) := by decide +kernel
theorem dX9_copy_104 : decode cX9_copy 104 = .ok (.iaload, 1) := by decide +kernel
theorem dX9_copy_105 : decode cX9_copy 105 = .ok (.iload 4, 2) := by decide +kernel
theorem dX9_copy_107 : decode cX9_copy 107 = .ok (.isub, 1) := by decide +kernel
theorem dX9_copy_108 : decode cX9_copy 108 = .ok (.if_icmp .le 10, 3) := by decide +kernel
theorem dX9_copy_111 : decode cX9_copy 111 = .ok (.aload_n 0, 1) := by decide +kernel
theorem dX9_copy_112 : decode cX9_copy 112 = .ok (.ldc 37, 2) := by decide +kernel
theorem dX9_copy_114 : decode cX9_copy 114 = .ok (.invokevirtual 51, 3) := by decide +kernel
theorem dX9_copy_117 : decode cX9_copy 117 = .ok (.ireturn, 1) := by decide +kernel
theorem dX9_copy_118 : decode cX9_copy 118 = .ok (.iconst 0, 1) := by decide +kernel
theorem dX9_copy_119 : decode cX9_copy 119 = .ok (.istore 6, 2) := by decide +kernel
theorem dX9_copy_121 : decode cX9_copy 121 = .ok (.iload 6, 2) := by decide +kernel
theorem dX9_copy_123 : decode cX9_copy 123 = .ok (.iload 5, 2) := by decide +kernel
theorem dX9_copy_125 : decode cX9_copy 125 = .ok (.if_icmp .ge 30, 3) := by decide +kernel
theorem dX9_copy_128 : decode cX9_copy 128 = .ok (.aload_n 0, 1) := by decide +kernel
theorem dX9_copy_129 : decode cX9_copy 129 = .ok (.getfield 34, 3) := by decide +kernel
theorem dX9_copy_132 : decode cX9_copy 132 = .ok (.iload 6, 2) := by decide +kernel
theorem dX9_copy_134 : decode cX9_copy 134 = .ok (.aload_n 0, 1) := by decide +kernel
theorem dX9_copy_135 : decode cX9_copy 135 = .ok (.getfield 31, 3) := by decide +kernel
theorem dX9_copy_138 : decode cX9_copy 138 = .ok (.bipush 40, 2) := by decide +kernel
theorem dX9_copy_140 : decode cX9_copy 140 = .ok (.iload_n 1, 1) := by decide +kernel
theorem dX9_copy_141 : decode cX9_copy 141 = .ok (.imul, 1) := by decide +kernel
theorem dX9_copy_142 : decode cX9_copy 142 = .ok (.iload_n 2, 1) := by decide +kernel
theorem dX9_copy_143 : decode cX9_copy 143 = .ok (.iadd, 1) := by decide +kernel
theorem dX9_copy_144 : decode cX9_copy 144 = .ok (.iload 6, 2) := by decide +kernel
theorem dX9_copy_146 : decode cX9_copy 146 = .ok (.iadd, 1) := by decide +kernel
theorem dX9_copy_147 : decode cX9_copy 147 = .ok (.iaload, 1) := by decide +kernel
theorem dX9_copy_148 : decode cX9_copy 148 = .ok (.iastore, 1) := by decide +kernel
theorem dX9_copy_149 : decode cX9_copy 149 = .ok (.iinc 6 1, 3) := by decide +kernel
theorem dX9_copy_152 : decode cX9_copy 152 = .ok (.goto (-31), 3) := by decide +kernel
theorem dX9_copy_155 : decode cX9_copy 155 = .ok (.iconst 0, 1) := by decide +kernel
theorem dX9_copy_156 : decode cX9_copy 156 = .ok (.istore 6, 2) := by decide +kernel
theorem dX9_copy_158 : decode cX9_copy 158 = .ok (.iload 6, 2) := by decide +kernel
theorem dX9_copy_160 : decode cX9_copy 160 = .ok (.iload 5, 2) := by decide +kernel
theorem dX9_copy_162 : decode cX9_copy 162 = .ok (.if_icmp .ge 31, 3) := by decide +kernel
theorem dX9_copy_165 : decode cX9_copy 165 = .ok (.aload_n 0, 1) := by decide +kernel
theorem dX9_copy_166 : decode cX9_copy 166 = .ok (.getfield 31, 3) := by decide +kernel
theorem dX9_copy_169 : decode cX9_copy 169 = .ok (.bipush 40, 2) := by decide +kernel
theorem dX9_copy_171 : decode cX9_copy 171 = .ok (.iload_n 3, 1) := by decide +kernel
theorem dX9_copy_172 : decode cX9_copy 172 = .ok (.imul, 1) := by decide +kernel
theorem dX9_copy_173 : decode cX9_copy 173 = .ok (.iload 4, 2) := by decide +kernel
theorem dX9_copy_175 : decode cX9_copy 175 = .ok (.iadd, 1) := by decide +kernel
theorem dX9_copy_176 : decode cX9_copy 176 = .ok (.iload 6, 2) := by decide +kernel
theorem dX9_copy_178 : decode cX9_copy 178 = .ok (.iadd, 1) := by decide +kernel
theorem dX9_copy_179 : decode cX9_copy 179 = .ok (.aload_n 0, 1) := by decide +kernel
theorem dX9_copy_180 : decode cX9_copy 180 = .ok (.getfield 34, 3) := by decide +kernel
theorem dX9_copy_183 : decode cX9_copy 183 = .ok (.iload 6, 2) := by decide +kernel
theorem dX9_copy_185 : decode cX9_copy 185 = .ok (.iaload, 1) := by decide +kernel
theorem dX9_copy_186 : decode cX9_copy 186 = .ok (.iastore, 1) := by decide +kernel
theorem dX9_copy_187 : decode cX9_copy 187 = .ok (.iinc 6 1, 3) := by decide +kernel
theorem dX9_copy_190 : decode cX9_copy 190 = .ok (.goto (-32), 3) := by decide +kernel
theorem dX9_copy_193 : decode cX9_copy 193 = .ok (.iload 5, 2) := by decide +kernel
theorem dX9_copy_195 : decode cX9_copy 195 = .ok (.ireturn, 1) := by decide +kernel
theorem dX9_load_0 : decode cX9_load 0 = .ok (.aload_n 0, 1) := by decide +kernel
theorem dX9_load_1 : decode cX9_load 1 = .ok (.iload_n 1, 1) := by decide +kernel
theorem dX9_load_2 : decode cX9_load 2 = .ok (.invokevirtual 331, 3) := by decide +kernel
theorem dX9_load_5 : decode cX9_load 5 = .ok (.istore_n 2, 1) := by decide +kernel
theorem dX9_load_6 : decode cX9_load 6 = .ok (.iload_n 2, 1) := by decide +kernel
theorem dX9_load_7 : decode cX9_load 7 = .ok (.ifCond .eq 9, 3) := by decide +kernel
theorem dX9_load_10 : decode cX9_load 10 = .ok (.aload_n 0, 1) := by decide +kernel
theorem dX9_load_11 : decode cX9_load 11 = .ok (.iload_n 2, 1) := by decide +kernel
theorem dX9_load_12 : decode cX9_load 12 = .ok (.invokevirtual 51, 3) := by decide +kernel
theorem dX9_load_15 : decode cX9_load 15 = .ok (.ireturn, 1) := by decide +kernel
theorem dX9_load_16 : decode cX9_load 16 = .ok (.iconst 0, 1) := by decide +kernel
theorem dX9_load_17 : decode cX9_load 17 = .ok (.istore_n 3, 1) := by decide +kernel
theorem dX9_load_18 : decode cX9_load 18 = .ok (.iload_n 3, 1) := by decide +kernel
theorem dX9_load_19 : decode cX9_load 19 = .ok (.aload_n 0, 1) := by decide +kernel
theorem dX9_load_20 : decode cX9_load 20 = .ok (.getfield 28, 3) := by decide +kernel
theorem dX9_load_23 : decode cX9_load 23 = .ok (.iload_n 1, 1) := by decide +kernel
theorem dX9_load_24 : decode cX9_load 24 = .ok (.iaload, 1) := by decide +kernel
theorem dX9_load_25 : decode cX9_load 25 = .ok (.if_icmp .ge 62, 3) := by decide +kernel
theorem dX9_load_28 : decode cX9_load 28 = .ok (.iload_n 3, 1) := by decide +kernel
theorem dX9_load_29 : decode cX9_load 29 = .ok (.aload_n 0, 1) := by decide +kernel
theorem dX9_load_30 : decode cX9_load 30 = .ok (.getfield 7, 3) := by decide +kernel
theorem dX9_load_33 : decode cX9_load 33 = .ok (.iconst 1, 1) := by decide +kernel
theorem dX9_load_34 : decode cX9_load 34 = .ok (.iaload, 1) := by decide +kernel
theorem dX9_load_35 : decode cX9_load 35 = .ok (.if_icmp .ge 52, 3) := by decide +kernel
theorem dX9_load_38 : decode cX9_load 38 = .ok (.aload_n 0, 1) := by decide +kernel
theorem dX9_load_39 : decode cX9_load 39 = .ok (.getfield 31, 3) := by decide +kernel
theorem dX9_load_42 : decode cX9_load 42 = .ok (.bipush 40, 2) := by decide +kernel
theorem dX9_load_44 : decode cX9_load 44 = .ok (.iload_n 1, 1) := by decide +kernel
theorem dX9_load_45 : decode cX9_load 45 = .ok (.imul, 1) := by decide +kernel
theorem dX9_load_46 : decode cX9_load 46 = .ok (.iload_n 3, 1) := by decide +kernel
theorem dX9_load_47 : decode cX9_load 47 = .ok (.iadd, 1) := by decide +kernel
theorem dX9_load_48 : decode cX9_load 48 = .ok (.iaload, 1) := by decide +kernel
theorem dX9_load_49 : decode cX9_load 49 = .ok (.i2l, 1) := by decide +kernel
theorem dX9_load_50 : decode cX9_load 50 = .ok (.lconst 0, 1) := by decide +kernel
theorem dX9_load_51 : decode cX9_load 51 = .ok (.ldc2_w 78, 3) := by decide +kernel
theorem dX9_load_54 : decode cX9_load 54 = .ok (.invokestatic 38, 3) := by decide +kernel
theorem dX9_load_57 : decode cX9_load 57 = .ok (.ifCond .eq 30, 3) := by decide +kernel
theorem dX9_load_60 : decode cX9_load 60 = .ok (.aload_n 0, 1) := by decide +kernel
theorem dX9_load_61 : decode cX9_load 61 = .ok (.getfield 7, 3) := by decide +kernel
theorem dX9_load_64 : decode cX9_load 64 = .ok (.iload_n 3, 1) := by decide +kernel
theorem dX9_load_65 : decode cX9_load 65 = .ok (.iconst 1, 1) := by decide +kernel
theorem dX9_load_66 : decode cX9_load 66 = .ok (.invokestatic 45, 3) := by decide +kernel
theorem dX9_load_69 : decode cX9_load 69 = .ok (.aload_n 0, 1) := by decide +kernel
theorem dX9_load_70 : decode cX9_load 70 = .ok (.getfield 31, 3) := by decide +kernel
theorem dX9_load_73 : decode cX9_load 73 = .ok (.bipush 40, 2) := by decide +kernel
theorem dX9_load_75 : decode cX9_load 75 = .ok (.iload_n 1, 1) := by decide +kernel
theorem dX9_load_76 : decode cX9_load 76 = .ok (.imul, 1) := by decide +kernel
theorem dX9_load_77 : decode cX9_load 77 = .ok (.iload_n 3, 1) := by decide +kernel
theorem dX9_load_78 : decode cX9_load 78 = .ok (.iadd, 1) := by decide +kernel
theorem dX9_load_79 : decode cX9_load 79 = .ok (.iaload, 1) := by decide +kernel
theorem dX9_load_80 : decode cX9_load 80 = .ok (.iastore, 1) := by decide +kernel
theorem dX9_load_81 : decode cX9_load 81 = .ok (.iinc 3 1, 3) := by decide +kernel
theorem dX9_load_84 : decode cX9_load 84 = .ok (.goto (-66), 3) := by decide +kernel
theorem dX9_load_87 : decode cX9_load 87 = .ok (.iload_n 3, 1) := by decide +kernel
theorem dX9_load_88 : decode cX9_load 88 = .ok (.ireturn, 1) := by decide +kernel
theorem dX9_judge_0 : decode cX9_judge 0 = .ok (.aload_n 0, 1) := by decide +kernel
theorem dX9_judge_1 : decode cX9_judge 1 = .ok (.iload_n 1, 1) := by decide +kernel
theorem dX9_judge_2 : decode cX9_judge 2 = .ok (.invokevirtual 331, 3) := by decide +kernel
theorem dX9_judge_5 : decode cX9_judge 5 = .ok (.istore_n 2, 1) := by decide +kernel
theorem dX9_judge_6 : decode cX9_judge 6 = .ok (.iload_n 2, 1) := by decide +kernel
theorem dX9_judge_7 : decode cX9_judge 7 = .ok (.ifCond .eq 9, 3) := by decide +kernel
theorem dX9_judge_10 : decode cX9_judge 10 = .ok (.aload_n 0, 1) := by decide +kernel
theorem dX9_judge_11 : decode cX9_judge 11 = .ok (.iload_n 2, 1) := by decide +kernel
theorem dX9_judge_12 : decode cX9_judge 12 = .ok (.invokevirtual 51, 3) := by decide +kernel
theorem dX9_judge_15 : decode cX9_judge 15 = .ok (.ireturn, 1) := by decide +kernel
theorem dX9_judge_16 : decode cX9_judge 16 = .ok (.aload_n 0, 1) := by decide +kernel
theorem dX9_judge_17 : decode cX9_judge 17 = .ok (.aload_n 0, 1) := by decide +kernel
theorem dX9_judge_18 : decode cX9_judge 18 = .ok (.getfield 28, 3) := by decide +kernel
theorem dX9_judge_21 : decode cX9_judge 21 = .ok (.iload_n 1, 1) := by decide +kernel
theorem dX9_judge_22 : decode cX9_judge 22 = .ok (.iaload, 1) := by decide +kernel
theorem dX9_judge_23 : decode cX9_judge 23 = .ok (.invokevirtual 171, 3) := by decide +kernel
theorem dX9_judge_26 : decode cX9_judge 26 = .ok (.ifCond .eq 10, 3) := by decide +kernel
theorem dX9_judge_29 : decode cX9_judge 29 = .ok (.aload_n 0, 1) := by decide +kernel
theorem dX9_judge_30 : decode cX9_judge 30 = .ok (.ldc 98, 2) := by decide +kernel
theorem dX9_judge_32 : decode cX9_judge 32 = .ok (.invokevirtual 51, 3) := by decide +kernel
theorem dX9_judge_35 : decode cX9_judge 35 = .ok (.ireturn, 1) := by decide +kernel
theorem dX9_judge_36 : decode cX9_judge 36 = .ok (.aload_n 0, 1) := by decide +kernel
theorem dX9_judge_37 : decode cX9_judge 37 = .ok (.invokevirtual 179, 3) := by decide +kernel
theorem dX9_judge_40 : decode cX9_judge 40 = .ok (.iconst 0, 1) := by decide +kernel
theorem dX9_judge_41 : decode cX9_judge 41 = .ok (.istore_n 3, 1) := by decide +kernel
theorem dX9_judge_42 : decode cX9_judge 42 = .ok (.iconst 1, 1) := by decide +kernel
theorem dX9_judge_43 : decode cX9_judge 43 = .ok (.istore 4, 2) := by decide +kernel
theorem dX9_judge_45 : decode cX9_judge 45 = .ok (.iload 4, 2) := by decide +kernel
theorem dX9_judge_47 : decode cX9_judge 47 = .ok (.ifCond .eq 73, 3) := by decide +kernel
theorem dX9_judge_50 : decode cX9_judge 50 = .ok (.iload_n 3, 1) := by decide +kernel
theorem dX9_judge_51 : decode cX9_judge 51 = .ok (.aload_n 0, 1) := by decide +kernel
theorem dX9_judge_52 : decode cX9_judge 52 = .ok (.getfield 28, 3) := by decide +kernel
theorem dX9_judge_55 : decode cX9_judge 55 = .ok (.iload_n 1, 1) := by decide +kernel
theorem dX9_judge_56 : decode cX9_judge 56 = .ok (.iaload, 1) := by decide +kernel
theorem dX9_judge_57 : decode cX9_judge 57 = .ok (.if_icmp .ge 63, 3) := by decide +kernel
theorem dX9_judge_60 : decode cX9_judge 60 = .ok (.aload_n 0, 1) := by decide +kernel
theorem dX9_judge_61 : decode cX9_judge 61 = .ok (.getfield 7, 3) := by decide +kernel
theorem dX9_judge_64 : decode cX9_judge 64 = .ok (.bipush 10, 2) := by decide +kernel
theorem dX9_judge_66 : decode cX9_judge 66 = .ok (.iaload, 1) := by decide +kernel
theorem dX9_judge_67 : decode cX9_judge 67 = .ok (.istore 5, 2) := by decide +kernel
theorem dX9_judge_69 : decode cX9_judge 69 = .ok (.aload_n 0, 1) := by decide +kernel
theorem dX9_judge_70 : decode cX9_judge 70 = .ok (.invokevirtual 166, 3) := by decide +kernel
theorem dX9_judge_73 : decode cX9_judge 73 = .ok (.aload_n 0, 1) := by decide +kernel
theorem dX9_judge_74 : decode cX9_judge 74 = .ok (.getfield 31, 3) := by decide +kernel
theorem dX9_judge_77 : decode cX9_judge 77 = .ok (.bipush 40, 2) := by decide +kernel
theorem dX9_judge_79 : decode cX9_judge 79 = .ok (.iload_n 1, 1) := by decide +kernel
theorem dX9_judge_80 : decode cX9_judge 80 = .ok (.imul, 1) := by decide +kernel
theorem dX9_judge_81 : decode cX9_judge 81 = .ok (.iload_n 3, 1) := by decide +kernel
theorem dX9_judge_82 : decode cX9_judge 82 = .ok (.iadd, 1) := by decide +kernel
theorem dX9_judge_83 : decode cX9_judge 83 = .ok (.iaload, 1) := by decide +kernel
theorem dX9_judge_84 : decode cX9_judge 84 = .ok (.aload_n 0, 1) := by decide +kernel
theorem dX9_judge_85 : decode cX9_judge 85 = .ok (.getfield 7, 3) := by decide +kernel
theorem dX9_judge_88 : decode cX9_judge 88 = .ok (.bipush 10, 2) := by decide +kernel
theorem dX9_judge_90 : decode cX9_judge 90 = .ok (.iaload, 1) := by decide +kernel
theorem dX9_judge_91 : decode cX9_judge 91 = .ok (.iload 5, 2) := by decide +kernel
theorem dX9_judge_93 : decode cX9_judge 93 = .ok (.isub, 1) := by decide +kernel
theorem dX9_judge_94 : decode cX9_judge 94 = .ok (.if_icmp .ne 7, 3) := by decide +kernel
theorem dX9_judge_97 : decode cX9_judge 97 = .ok (.iconst 1, 1) := by decide +kernel
theorem dX9_judge_98 : decode cX9_judge 98 = .ok (.goto 4, 3) := by decide +kernel
theorem dX9_judge_101 : decode cX9_judge 101 = .ok (.iconst 0, 1) := by decide +kernel
theorem dX9_judge_102 : decode cX9_judge 102 = .ok (.istore 4, 2) := by decide +kernel
theorem dX9_judge_104 : decode cX9_judge 104 = .ok (.iload_n 3, 1) := by decide +kernel
theorem dX9_judge_105 : decode cX9_judge 105 = .ok (.iload 4, 2) := by decide +kernel
theorem dX9_judge_107 : decode cX9_judge 107 = .ok (.ifCond .eq 7, 3) := by decide +kernel
theorem dX9_judge_110 : decode cX9_judge 110 = .ok (.iconst 1, 1) := by decide +kernel
theorem dX9_judge_111 : decode cX9_judge 111 = .ok (.goto 4, 3) := by decide +kernel
theorem dX9_judge_114 : decode cX9_judge 114 = .ok (.iconst 0, 1) := by decide +kernel
theorem dX9_judge_115 : decode cX9_judge 115 = .ok (.iadd, 1) := by decide +kernel
theorem dX9_judge_116 : decode cX9_judge 116 = .ok (.istore_n 3, 1) := by decide +kernel
theorem dX9_judge_117 : decode cX9_judge 117 = .ok (.goto (-72), 3) := by decide +kernel
theorem dX9_judge_120 : decode cX9_judge 120 = .ok (.aload_n 0, 1) := by decide +kernel
theorem dX9_judge_121 : decode cX9_judge 121 = .ok (.invokevirtual 188, 3) := by decide +kernel
theorem dX9_judge_124 : decode cX9_judge 124 = .ok (.iload 4, 2) := by decide +kernel
theorem dX9_judge_126 : decode cX9_judge 126 = .ok (.ifCond .eq 7, 3) := by decide +kernel
theorem dX9_judge_129 : decode cX9_judge 129 = .ok (.iconst 0, 1) := by decide +kernel
theorem dX9_judge_130 : decode cX9_judge 130 = .ok (.goto 6, 3) := by decide +kernel
theorem dX9_judge_133 : decode cX9_judge 133 = .ok (.iconst 1, 1) := by decide +kernel
theorem dX9_judge_134 : decode cX9_judge 134 = .ok (.iload_n 3, 1) := by decide +kernel
theorem dX9_judge_135 : decode cX9_judge 135 = .ok (.iadd, 1) := by decide +kernel
theorem dX9_judge_136 : decode cX9_judge 136 = .ok (.ireturn, 1) := by decide +kernel
theorem dX9_image_0 : decode cX9_image 0 = .ok (.iconst 0, 1) := by decide +kernel
theorem dX9_image_1 : decode cX9_image 1 = .ok (.istore_n 1, 1) := by decide +kernel
theorem dX9_image_2 : decode cX9_image 2 = .ok (.iload_n 1, 1) := by decide +kernel
theorem dX9_image_3 : decode cX9_image 3 = .ok (.bipush 116, 2) := by decide +kernel
theorem dX9_image_5 : decode cX9_image 5 = .ok (.if_icmp .ge 21, 3) := by decide +kernel
theorem dX9_image_8 : decode cX9_image 8 = .ok (.aload_n 0, 1) := by decide +kernel
theorem dX9_image_9 : decode cX9_image 9 = .ok (.getfield 13, 3) := by decide +kernel
theorem dX9_image_12 : decode cX9_image 12 = .ok (.iload_n 1, 1) := by decide +kernel
theorem dX9_image_13 : decode cX9_image 13 = .ok (.aload_n 0, 1) := by decide +kernel
theorem dX9_image_14 : decode cX9_image 14 = .ok (.getfield 7, 3) := by decide +kernel
theorem dX9_image_17 : decode cX9_image 17 = .ok (.iload_n 1, 1) := by decide +kernel
theorem dX9_image_18 : decode cX9_image 18 = .ok (.iaload, 1) := by decide +kernel
theorem dX9_image_19 : decode cX9_image 19 = .ok (.iastore, 1) := by decide +kernel
theorem dX9_image_20 : decode cX9_image 20 = .ok (.iinc 1 1, 3) := by decide +kernel
theorem dX9_image_23 : decode cX9_image 23 = .ok (.goto (-21), 3) := by decide +kernel
theorem dX9_image_26 : decode cX9_image 26 = .ok (.aload_n 0, 1) := by decide +kernel
theorem dX9_image_27 : decode cX9_image 27 = .ok (.iconst 1, 1) := by decide +kernel
theorem dX9_image_28 : decode cX9_image 28 = .ok (.putfield 337, 3) := by decide +kernel
theorem dX9_image_31 : decode cX9_image 31 = .ok (.iconst 1, 1) := by decide +kernel
theorem dX9_image_32 : decode cX9_image 32 = .ok (.ireturn, 1) := by decide +kernel
theorem dX9_undo_0 : decode cX9_undo 0 = .ok (.aload_n 0, 1) := by decide +kernel
theorem dX9_undo_1 : decode cX9_undo 1 = .ok (.getfield 337, 3) := by decide +kernel
theorem dX9_undo_4 : decode cX9_undo 4 = .ok (.ifCond .ne 10, 3) := by decide +kernel
theorem dX9_undo_7 : decode cX9_undo 7 = .ok (.aload_n 0, 1) := by decide +kernel
theorem dX9_undo_8 : decode cX9_undo 8 = .ok (.ldc 195, 2) := by decide +kernel
theorem dX9_undo_10 : decode cX9_undo 10 = .ok (.invokevirtual 51, 3) := by decide +kernel
theorem dX9_undo_13 : decode cX9_undo 13 = .ok (.ireturn, 1) := by decide +kernel
theorem dX9_undo_14 : decode cX9_undo 14 = .ok (.iconst 0, 1) := by decide +kernel
theorem dX9_undo_15 : decode cX9_undo 15 = .ok (.istore_n 1, 1) := by decide +kernel
theorem dX9_undo_16 : decode cX9_undo 16 = .ok (.iload_n 1, 1) := by decide +kernel
theorem dX9_undo_17 : decode cX9_undo 17 = .ok (.bipush 116, 2) := by decide +kernel
theorem dX9_undo_19 : decode cX9_undo 19 = .ok (.if_icmp .ge 21, 3) := by decide +kernel
theorem dX9_undo_22 : decode cX9_undo 22 = .ok (.aload_n 0, 1) := by decide +kernel
theorem dX9_undo_23 : decode cX9_undo 23 = .ok (.getfield 7, 3) := by decide +kernel
theorem dX9_undo_26 : decode cX9_undo 26 = .ok (.iload_n 1, 1) := by decide +kernel
theorem dX9_undo_27 : decode cX9_undo 27 = .ok (.aload_n 0, 1) := by decide +kernel
theorem dX9_undo_28 : decode cX9_undo 28 = .ok (.getfield 13, 3) := by decide +kernel
theorem dX9_undo_31 : decode cX9_undo 31 = .ok (.iload_n 1, 1) := by decide +kernel
theorem dX9_undo_32 : decode cX9_undo 32 = .ok (.iaload, 1) := by decide +kernel
theorem dX9_undo_33 : decode cX9_undo 33 = .ok (.iastore, 1) := by decide +kernel
theorem dX9_undo_34 : decode cX9_undo 34 = .ok (.iinc 1 1, 3) := by decide +kernel
theorem dX9_undo_37 : decode cX9_undo 37 = .ok (.goto (-21), 3) := by decide +kernel
theorem dX9_undo_40 : decode cX9_undo 40 = .ok (.aload_n 0, 1) := by decide +kernel
theorem dX9_undo_41 : decode cX9_undo 41 = .ok (.getfield 7, 3) := by decide +kernel
theorem dX9_undo_44 : decode cX9_undo 44 = .ok (.iconst 0, 1) := by decide +kernel
theorem dX9_undo_45 : decode cX9_undo 45 = .ok (.iaload, 1) := by decide +kernel
theorem dX9_undo_46 : decode cX9_undo 46 = .ok (.ireturn, 1) := by decide +kernel
theorem dX9_tear_0 : decode cX9_tear 0 = .ok (.aload_n 0, 1) := by decide +kernel
theorem dX9_tear_1 : decode cX9_tear 1 = .ok (.getfield 337, 3) := by decide +kernel
theorem dX9_tear_4 : decode cX9_tear 4 = .ok (.ifCond .eq 7, 3) := by decide +kernel
theorem dX9_tear_7 : decode cX9_tear 7 = .ok (.iconst 1, 1) := by decide +kernel
theorem dX9_tear_8 : decode cX9_tear 8 = .ok (.goto 4, 3) := by decide +kernel
theorem dX9_tear_11 : decode cX9_tear 11 = .ok (.iconst 0, 1) := by decide +kernel
theorem dX9_tear_12 : decode cX9_tear 12 = .ok (.istore_n 1, 1) := by decide +kernel
theorem dX9_tear_13 : decode cX9_tear 13 = .ok (.aload_n 0, 1) := by decide +kernel
theorem dX9_tear_14 : decode cX9_tear 14 = .ok (.iconst 0, 1) := by decide +kernel
theorem dX9_tear_15 : decode cX9_tear 15 = .ok (.putfield 337, 3) := by decide +kernel
theorem dX9_tear_18 : decode cX9_tear 18 = .ok (.iload_n 1, 1) := by decide +kernel
theorem dX9_tear_19 : decode cX9_tear 19 = .ok (.ireturn, 1) := by decide +kernel
theorem dX9_held_0 : decode cX9_held 0 = .ok (.iconst 0, 1) := by decide +kernel
theorem dX9_held_1 : decode cX9_held 1 = .ok (.istore_n 1, 1) := by decide +kernel
theorem dX9_held_2 : decode cX9_held 2 = .ok (.iconst 0, 1) := by decide +kernel
theorem dX9_held_3 : decode cX9_held 3 = .ok (.istore_n 2, 1) := by decide +kernel
theorem dX9_held_4 : decode cX9_held 4 = .ok (.iload_n 2, 1) := by decide +kernel
theorem dX9_held_5 : decode cX9_held 5 = .ok (.bipush 10, 2) := by decide +kernel
theorem dX9_held_7 : decode cX9_held 7 = .ok (.if_icmp .ge 29, 3) := by decide +kernel
theorem dX9_held_10 : decode cX9_held 10 = .ok (.iload_n 1, 1) := by decide +kernel
theorem dX9_held_11 : decode cX9_held 11 = .ok (.aload_n 0, 1) := by decide +kernel
theorem dX9_held_12 : decode cX9_held 12 = .ok (.getfield 7, 3) := by decide +kernel
theorem dX9_held_15 : decode cX9_held 15 = .ok (.bipush 106, 2) := by decide +kernel
theorem dX9_held_17 : decode cX9_held 17 = .ok (.iload_n 2, 1) := by decide +kernel
theorem dX9_held_18 : decode cX9_held 18 = .ok (.iadd, 1) := by decide +kernel
theorem dX9_held_19 : decode cX9_held 19 = .ok (.iaload, 1) := by decide +kernel
theorem dX9_held_20 : decode cX9_held 20 = .ok (.ifCond .ge 7, 3) := by decide +kernel
theorem dX9_held_23 : decode cX9_held 23 = .ok (.iconst 0, 1) := by decide +kernel
theorem dX9_held_24 : decode cX9_held 24 = .ok (.goto 4, 3) := by decide +kernel
theorem dX9_held_27 : decode cX9_held 27 = .ok (.iconst 1, 1) := by decide +kernel
theorem dX9_held_28 : decode cX9_held 28 = .ok (.iadd, 1) := by decide +kernel
theorem dX9_held_29 : decode cX9_held 29 = .ok (.istore_n 1, 1) := by decide +kernel
theorem dX9_held_30 : decode cX9_held 30 = .ok (.iinc 2 1, 3) := by decide +kernel
theorem dX9_held_33 : decode cX9_held 33 = .ok (.goto (-29), 3) := by decide +kernel
theorem dX9_held_36 : decode cX9_held 36 = .ok (.iload_n 1, 1) := by decide +kernel
theorem dX9_held_37 : decode cX9_held 37 = .ok (.ireturn, 1) := by decide +kernel
theorem dX9_bagsOfAll_0 : decode cX9_bagsOfAll 0 = .ok (.iconst 0, 1) := by decide +kernel
theorem dX9_bagsOfAll_1 : decode cX9_bagsOfAll 1 = .ok (.istore_n 1, 1) := by decide +kernel
theorem dX9_bagsOfAll_2 : decode cX9_bagsOfAll 2 = .ok (.iconst 0, 1) := by decide +kernel
theorem dX9_bagsOfAll_3 : decode cX9_bagsOfAll 3 = .ok (.istore_n 2, 1) := by decide +kernel
theorem dX9_bagsOfAll_4 : decode cX9_bagsOfAll 4 = .ok (.iload_n 2, 1) := by decide +kernel
theorem dX9_bagsOfAll_5 : decode cX9_bagsOfAll 5 = .ok (.aload_n 0, 1) := by decide +kernel
theorem dX9_bagsOfAll_6 : decode cX9_bagsOfAll 6 = .ok (.getfield 7, 3) := by decide +kernel
theorem dX9_bagsOfAll_9 : decode cX9_bagsOfAll 9 = .ok (.iconst 1, 1) := by decide +kernel
theorem dX9_bagsOfAll_10 : decode cX9_bagsOfAll 10 = .ok (.iaload, 1) := by decide +kernel
theorem dX9_bagsOfAll_11 : decode cX9_bagsOfAll 11 = .ok (.if_icmp .ge 18, 3) := by decide +kernel
theorem dX9_bagsOfAll_14 : decode cX9_bagsOfAll 14 = .ok (.iload_n 1, 1) := by decide +kernel
theorem dX9_bagsOfAll_15 : decode cX9_bagsOfAll 15 = .ok (.aload_n 0, 1) := by decide +kernel
theorem dX9_bagsOfAll_16 : decode cX9_bagsOfAll 16 = .ok (.iload_n 2, 1) := by decide +kernel
theorem dX9_bagsOfAll_17 : decode cX9_bagsOfAll 17 = .ok (.iconst 1, 1) := by decide +kernel
theorem dX9_bagsOfAll_18 : decode cX9_bagsOfAll 18 = .ok (.invokevirtual 60, 3) := by decide +kernel
theorem dX9_bagsOfAll_21 : decode cX9_bagsOfAll 21 = .ok (.iadd, 1) := by decide +kernel
theorem dX9_bagsOfAll_22 : decode cX9_bagsOfAll 22 = .ok (.istore_n 1, 1) := by decide +kernel
theorem dX9_bagsOfAll_23 : decode cX9_bagsOfAll 23 = .ok (.iinc 2 1, 3) := by decide +kernel
theorem dX9_bagsOfAll_26 : decode cX9_bagsOfAll 26 = .ok (.goto (-22), 3) := by decide +kernel
theorem dX9_bagsOfAll_29 : decode cX9_bagsOfAll 29 = .ok (.iload_n 1, 1) := by decide +kernel
theorem dX9_bagsOfAll_30 : decode cX9_bagsOfAll 30 = .ok (.ireturn, 1) := by decide +kernel
theorem dX9_peopleOfAll_0 : decode cX9_peopleOfAll 0 = .ok (.iconst 0, 1) := by decide +kernel
theorem dX9_peopleOfAll_1 : decode cX9_peopleOfAll 1 = .ok (.istore_n 1, 1) := by decide +kernel
theorem dX9_peopleOfAll_2 : decode cX9_peopleOfAll 2 = .ok (.iconst 0, 1) := by decide +kernel
theorem dX9_peopleOfAll_3 : decode cX9_peopleOfAll 3 = .ok (.istore_n 2, 1) := by decide +kernel
theorem dX9_peopleOfAll_4 : decode cX9_peopleOfAll 4 = .ok (.iload_n 2, 1) := by decide +kernel
theorem dX9_peopleOfAll_5 : decode cX9_peopleOfAll 5 = .ok (.aload_n 0, 1) := by decide +kernel
theorem dX9_peopleOfAll_6 : decode cX9_peopleOfAll 6 = .ok (.getfield 7, 3) := by decide +kernel
theorem dX9_peopleOfAll_9 : decode cX9_peopleOfAll 9 = .ok (.iconst 2, 1) := by decide +kernel
theorem dX9_peopleOfAll_10 : decode cX9_peopleOfAll 10 = .ok (.iaload, 1) := by decide +kernel
theorem dX9_peopleOfAll_11 : decode cX9_peopleOfAll 11 = .ok (.if_icmp .ge 18, 3) := by decide +kernel
theorem dX9_peopleOfAll_14 : decode cX9_peopleOfAll 14 = .ok (.iload_n 1, 1) := by decide +kernel
theorem dX9_peopleOfAll_15 : decode cX9_peopleOfAll 15 = .ok (.aload_n 0, 1) := by decide +kernel
theorem dX9_peopleOfAll_16 : decode cX9_peopleOfAll 16 = .ok (.iload_n 2, 1) := by decide +kernel
theorem dX9_peopleOfAll_17 : decode cX9_peopleOfAll 17 = .ok (.iconst 2, 1) := by decide +kernel
theorem dX9_peopleOfAll_18 : decode cX9_peopleOfAll 18 = .ok (.invokevirtual 145, 3) := by decide +kernel
theorem dX9_peopleOfAll_21 : decode cX9_peopleOfAll 21 = .ok (.iadd, 1) := by decide +kernel
theorem dX9_peopleOfAll_22 : decode cX9_peopleOfAll 22 = .ok (.istore_n 1, 1) := by decide +kernel
theorem dX9_peopleOfAll_23 : decode cX9_peopleOfAll 23 = .ok (.iinc 2 1, 3) := by decide +kernel
theorem dX9_peopleOfAll_26 : decode cX9_peopleOfAll 26 = .ok (.goto (-22), 3) := by decide +kernel
theorem dX9_peopleOfAll_29 : decode cX9_peopleOfAll 29 = .ok (.iload_n 1, 1) := by decide +kernel
theorem dX9_peopleOfAll_30 : decode cX9_peopleOfAll 30 = .ok (.ireturn, 1) := by decide +kernel
theorem dX9_count_0 : decode cX9_count 0 = .ok (.iload_n 1, 1) := by decide +kernel
theorem dX9_count_1 : decode cX9_count 1 = .ok (.tableswitch 107 0 8 #[51, 58, 65, 70, 75, 82, 90, 95, 102], 51) := by decide +kernel
theorem dX9_count_52 : decode cX9_count 52 = .ok (.aload_n 0, 1) := by decide +kernel
theorem dX9_count_53 : decode cX9_count 53 = .ok (.getfield 7, 3) := by decide +kernel
theorem dX9_count_56 : decode cX9_count 56 = .ok (.iconst 1, 1) := by decide +kernel
theorem dX9_count_57 : decode cX9_count 57 = .ok (.iaload, 1) := by decide +kernel
theorem dX9_count_58 : decode cX9_count 58 = .ok (.ireturn, 1) := by decide +kernel
theorem dX9_count_59 : decode cX9_count 59 = .ok (.aload_n 0, 1) := by decide +kernel
theorem dX9_count_60 : decode cX9_count 60 = .ok (.getfield 7, 3) := by decide +kernel
theorem dX9_count_63 : decode cX9_count 63 = .ok (.iconst 2, 1) := by decide +kernel
theorem dX9_count_64 : decode cX9_count 64 = .ok (.iaload, 1) := by decide +kernel
theorem dX9_count_65 : decode cX9_count 65 = .ok (.ireturn, 1) := by decide +kernel
theorem dX9_count_66 : decode cX9_count 66 = .ok (.aload_n 0, 1) := by decide +kernel
theorem dX9_count_67 : decode cX9_count 67 = .ok (.invokevirtual 340, 3) := by decide +kernel
theorem dX9_count_70 : decode cX9_count 70 = .ok (.ireturn, 1) := by decide +kernel
theorem dX9_count_71 : decode cX9_count 71 = .ok (.aload_n 0, 1) := by decide +kernel
theorem dX9_count_72 : decode cX9_count 72 = .ok (.invokevirtual 343, 3) := by decide +kernel
theorem dX9_count_75 : decode cX9_count 75 = .ok (.ireturn, 1) := by decide +kernel
theorem dX9_count_76 : decode cX9_count 76 = .ok (.aload_n 0, 1) := by decide +kernel
theorem dX9_count_77 : decode cX9_count 77 = .ok (.getfield 7, 3) := by decide +kernel
theorem dX9_count_80 : decode cX9_count 80 = .ok (.iconst 5, 1) := by decide +kernel
theorem dX9_count_81 : decode cX9_count 81 = .ok (.iaload, 1) := by decide +kernel
theorem dX9_count_82 : decode cX9_count 82 = .ok (.ireturn, 1) := by decide +kernel
theorem dX9_count_83 : decode cX9_count 83 = .ok (.aload_n 0, 1) := by decide +kernel
theorem dX9_count_84 : decode cX9_count 84 = .ok (.getfield 7, 3) := by decide +kernel
theorem dX9_count_87 : decode cX9_count 87 = .ok (.bipush 6, 2) := by decide +kernel
theorem dX9_count_89 : decode cX9_count 89 = .ok (.iaload, 1) := by decide +kernel
theorem dX9_count_90 : decode cX9_count 90 = .ok (.ireturn, 1) := by decide +kernel
theorem dX9_count_91 : decode cX9_count 91 = .ok (.aload_n 0, 1) := by decide +kernel
theorem dX9_count_92 : decode cX9_count 92 = .ok (.getfield 218, 3) := by decide +kernel
theorem dX9_count_95 : decode cX9_count 95 = .ok (.ireturn, 1) := by decide +kernel
theorem dX9_count_96 : decode cX9_count 96 = .ok (.aload_n 0, 1) := by decide +kernel
theorem dX9_count_97 : decode cX9_count 97 = .ok (.getfield 7, 3) := by decide +kernel
theorem dX9_count_100 : decode cX9_count 100 = .ok (.iconst 3, 1) := by decide +kernel
theorem dX9_count_101 : decode cX9_count 101 = .ok (.iaload, 1) := by decide +kernel
theorem dX9_count_102 : decode cX9_count 102 = .ok (.ireturn, 1) := by decide +kernel
theorem dX9_count_103 : decode cX9_count 103 = .ok (.aload_n 0, 1) := by decide +kernel
theorem dX9_count_104 : decode cX9_count 104 = .ok (.invokevirtual 346, 3) := by decide +kernel
theorem dX9_count_107 : decode cX9_count 107 = .ok (.ireturn, 1) := by decide +kernel
theorem dX9_count_108 : decode cX9_count 108 = .ok (.aload_n 0, 1) := by decide +kernel
theorem dX9_count_109 : decode cX9_count 109 = .ok (.ldc 37, 2) := by decide +kernel
theorem dX9_count_111 : decode cX9_count 111 = .ok (.invokevirtual 51, 3) := by decide +kernel
theorem dX9_count_114 : decode cX9_count 114 = .ok (.ireturn, 1) := by decide +kernel
theorem dX9_status_0 : decode cX9_status 0 = .ok (.iload_n 1, 1) := by decide +kernel
theorem dX9_status_1 : decode cX9_status 1 = .ok (.i2l, 1) := by decide +kernel
theorem dX9_status_2 : decode cX9_status 2 = .ok (.ldc2_w 349, 3) := by decide +kernel
theorem dX9_status_5 : decode cX9_status 5 = .ok (.ldc2_w 49, 3) := by decide +kernel
theorem dX9_status_8 : decode cX9_status 8 = .ok (.invokestatic 38, 3) := by decide +kernel
theorem dX9_status_11 : decode cX9_status 11 = .ok (.ifCond .ne 10, 3) := by decide +kernel
theorem dX9_status_14 : decode cX9_status 14 = .ok (.aload_n 0, 1) := by decide +kernel
theorem dX9_status_15 : decode cX9_status 15 = .ok (.ldc 37, 2) := by decide +kernel
theorem dX9_status_17 : decode cX9_status 17 = .ok (.invokevirtual 51, 3) := by decide +kernel
theorem dX9_status_20 : decode cX9_status 20 = .ok (.ireturn, 1) := by decide +kernel
theorem dX9_status_21 : decode cX9_status 21 = .ok (.iconst 0, 1) := by decide +kernel
theorem dX9_status_22 : decode cX9_status 22 = .ok (.istore_n 2, 1) := by decide +kernel
theorem dX9_status_23 : decode cX9_status 23 = .ok (.iconst 0, 1) := by decide +kernel
theorem dX9_status_24 : decode cX9_status 24 = .ok (.istore_n 3, 1) := by decide +kernel
theorem dX9_status_25 : decode cX9_status 25 = .ok (.iload_n 3, 1) := by decide +kernel
theorem dX9_status_26 : decode cX9_status 26 = .ok (.bipush 7, 2) := by decide +kernel
theorem dX9_status_28 : decode cX9_status 28 = .ok (.if_icmp .ge 31, 3) := by decide +kernel
theorem dX9_status_31 : decode cX9_status 31 = .ok (.iload_n 2, 1) := by decide +kernel
theorem dX9_status_32 : decode cX9_status 32 = .ok (.iload_n 1, 1) := by decide +kernel
theorem dX9_status_33 : decode cX9_status 33 = .ok (.ifCond .lt 8, 3) := by decide +kernel
theorem dX9_status_36 : decode cX9_status 36 = .ok (.iload_n 3, 1) := by decide +kernel
theorem dX9_status_37 : decode cX9_status 37 = .ok (.iload_n 1, 1) := by decide +kernel
theorem dX9_status_38 : decode cX9_status 38 = .ok (.if_icmp .ne 12, 3) := by decide +kernel
theorem dX9_status_41 : decode cX9_status 41 = .ok (.aload_n 0, 1) := by decide +kernel
theorem dX9_status_42 : decode cX9_status 42 = .ok (.getfield 19, 3) := by decide +kernel
theorem dX9_status_45 : decode cX9_status 45 = .ok (.iload_n 3, 1) := by decide +kernel
theorem dX9_status_46 : decode cX9_status 46 = .ok (.iaload, 1) := by decide +kernel
theorem dX9_status_47 : decode cX9_status 47 = .ok (.goto 4, 3) := by decide +kernel
theorem dX9_status_50 : decode cX9_status 50 = .ok (.iconst 0, 1) := by decide +kernel
theorem dX9_status_51 : decode cX9_status 51 = .ok (.iadd, 1) := by decide +kernel
theorem dX9_status_52 : decode cX9_status 52 = .ok (.istore_n 2, 1) := by decide +kernel
theorem dX9_status_53 : decode cX9_status 53 = .ok (.iinc 3 1, 3) := by decide +kernel
theorem dX9_status_56 : decode cX9_status 56 = .ok (.goto (-31), 3) := by decide +kernel
theorem dX9_status_59 : decode cX9_status 59 = .ok (.iload_n 2, 1) := by decide +kernel
theorem dX9_status_60 : decode cX9_status 60 = .ok (.ireturn, 1) := by decide +kernel
theorem dJ6_bitCount_0f7a4_0 : decode cJ6_bitCount_0f7a4 0 = .ok (.iload_n 0, 1) := by decide +kernel
theorem dJ6_bitCount_0f7a4_1 : decode cJ6_bitCount_0f7a4 1 = .ok (.iload_n 0, 1) := by decide +kernel
theorem dJ6_bitCount_0f7a4_2 : decode cJ6_bitCount_0f7a4 2 = .ok (.iconst 1, 1) := by decide +kernel
theorem dJ6_bitCount_0f7a4_3 : decode cJ6_bitCount_0f7a4 3 = .ok (.iushr, 1) := by decide +kernel
theorem dJ6_bitCount_0f7a4_4 : decode cJ6_bitCount_0f7a4 4 = .ok (.ldc_w 265, 3) := by decide +kernel
theorem dJ6_bitCount_0f7a4_7 : decode cJ6_bitCount_0f7a4 7 = .ok (.iand, 1) := by decide +kernel
theorem dJ6_bitCount_0f7a4_8 : decode cJ6_bitCount_0f7a4 8 = .ok (.isub, 1) := by decide +kernel
theorem dJ6_bitCount_0f7a4_9 : decode cJ6_bitCount_0f7a4 9 = .ok (.istore_n 0, 1) := by decide +kernel
theorem dJ6_bitCount_0f7a4_10 : decode cJ6_bitCount_0f7a4 10 = .ok (.iload_n 0, 1) := by decide +kernel
theorem dJ6_bitCount_0f7a4_11 : decode cJ6_bitCount_0f7a4 11 = .ok (.ldc_w 266, 3) := by decide +kernel
theorem dJ6_bitCount_0f7a4_14 : decode cJ6_bitCount_0f7a4 14 = .ok (.iand, 1) := by decide +kernel
theorem dJ6_bitCount_0f7a4_15 : decode cJ6_bitCount_0f7a4 15 = .ok (.iload_n 0, 1) := by decide +kernel
theorem dJ6_bitCount_0f7a4_16 : decode cJ6_bitCount_0f7a4 16 = .ok (.iconst 2, 1) := by decide +kernel
theorem dJ6_bitCount_0f7a4_17 : decode cJ6_bitCount_0f7a4 17 = .ok (.iushr, 1) := by decide +kernel
theorem dJ6_bitCount_0f7a4_18 : decode cJ6_bitCount_0f7a4 18 = .ok (.ldc_w 266, 3) := by decide +kernel
theorem dJ6_bitCount_0f7a4_21 : decode cJ6_bitCount_0f7a4 21 = .ok (.iand, 1) := by decide +kernel
theorem dJ6_bitCount_0f7a4_22 : decode cJ6_bitCount_0f7a4 22 = .ok (.iadd, 1) := by decide +kernel
theorem dJ6_bitCount_0f7a4_23 : decode cJ6_bitCount_0f7a4 23 = .ok (.istore_n 0, 1) := by decide +kernel
theorem dJ6_bitCount_0f7a4_24 : decode cJ6_bitCount_0f7a4 24 = .ok (.iload_n 0, 1) := by decide +kernel
theorem dJ6_bitCount_0f7a4_25 : decode cJ6_bitCount_0f7a4 25 = .ok (.iload_n 0, 1) := by decide +kernel
theorem dJ6_bitCount_0f7a4_26 : decode cJ6_bitCount_0f7a4 26 = .ok (.iconst 4, 1) := by decide +kernel
theorem dJ6_bitCount_0f7a4_27 : decode cJ6_bitCount_0f7a4 27 = .ok (.iushr, 1) := by decide +kernel
theorem dJ6_bitCount_0f7a4_28 : decode cJ6_bitCount_0f7a4 28 = .ok (.iadd, 1) := by decide +kernel
theorem dJ6_bitCount_0f7a4_29 : decode cJ6_bitCount_0f7a4 29 = .ok (.ldc_w 267, 3) := by decide +kernel
theorem dJ6_bitCount_0f7a4_32 : decode cJ6_bitCount_0f7a4 32 = .ok (.iand, 1) := by decide +kernel
theorem dJ6_bitCount_0f7a4_33 : decode cJ6_bitCount_0f7a4 33 = .ok (.istore_n 0, 1) := by decide +kernel
theorem dJ6_bitCount_0f7a4_34 : decode cJ6_bitCount_0f7a4 34 = .ok (.iload_n 0, 1) := by decide +kernel
theorem dJ6_bitCount_0f7a4_35 : decode cJ6_bitCount_0f7a4 35 = .ok (.iload_n 0, 1) := by decide +kernel
theorem dJ6_bitCount_0f7a4_36 : decode cJ6_bitCount_0f7a4 36 = .ok (.bipush 8, 2) := by decide +kernel
theorem dJ6_bitCount_0f7a4_38 : decode cJ6_bitCount_0f7a4 38 = .ok (.iushr, 1) := by decide +kernel
theorem dJ6_bitCount_0f7a4_39 : decode cJ6_bitCount_0f7a4 39 = .ok (.iadd, 1) := by decide +kernel
theorem dJ6_bitCount_0f7a4_40 : decode cJ6_bitCount_0f7a4 40 = .ok (.istore_n 0, 1) := by decide +kernel
theorem dJ6_bitCount_0f7a4_41 : decode cJ6_bitCount_0f7a4 41 = .ok (.iload_n 0, 1) := by decide +kernel
theorem dJ6_bitCount_0f7a4_42 : decode cJ6_bitCount_0f7a4 42 = .ok (.iload_n 0, 1) := by decide +kernel
theorem dJ6_bitCount_0f7a4_43 : decode cJ6_bitCount_0f7a4 43 = .ok (.bipush 16, 2) := by decide +kernel
theorem dJ6_bitCount_0f7a4_45 : decode cJ6_bitCount_0f7a4 45 = .ok (.iushr, 1) := by decide +kernel
theorem dJ6_bitCount_0f7a4_46 : decode cJ6_bitCount_0f7a4 46 = .ok (.iadd, 1) := by decide +kernel
theorem dJ6_bitCount_0f7a4_47 : decode cJ6_bitCount_0f7a4 47 = .ok (.istore_n 0, 1) := by decide +kernel
theorem dJ6_bitCount_0f7a4_48 : decode cJ6_bitCount_0f7a4 48 = .ok (.iload_n 0, 1) := by decide +kernel
theorem dJ6_bitCount_0f7a4_49 : decode cJ6_bitCount_0f7a4 49 = .ok (.bipush 63, 2) := by decide +kernel
theorem dJ6_bitCount_0f7a4_51 : decode cJ6_bitCount_0f7a4 51 = .ok (.iand, 1) := by decide +kernel
theorem dJ6_bitCount_0f7a4_52 : decode cJ6_bitCount_0f7a4 52 = .ok (.ireturn, 1) := by decide +kernel
theorem dJ9_abs_0f7a4_0 : decode cJ9_abs_0f7a4 0 = .ok (.iload_n 0, 1) := by decide +kernel
theorem dJ9_abs_0f7a4_1 : decode cJ9_abs_0f7a4 1 = .ok (.ifCond .ge 8, 3) := by decide +kernel
theorem dJ9_abs_0f7a4_4 : decode cJ9_abs_0f7a4 4 = .ok (.iload_n 0, 1) := by decide +kernel
theorem dJ9_abs_0f7a4_5 : decode cJ9_abs_0f7a4 5 = .ok (.ineg, 1) := by decide +kernel
theorem dJ9_abs_0f7a4_6 : decode cJ9_abs_0f7a4 6 = .ok (.goto 4, 3) := by decide +kernel
theorem dJ9_abs_0f7a4_9 : decode cJ9_abs_0f7a4 9 = .ok (.iload_n 0, 1) := by decide +kernel
theorem dJ9_abs_0f7a4_10 : decode cJ9_abs_0f7a4 10 = .ok (.ireturn, 1) := by decide +kernel
theorem dJ9_max_7cf53_0 : decode cJ9_max_7cf53 0 = .ok (.iload_n 0, 1) := by decide +kernel
theorem dJ9_max_7cf53_1 : decode cJ9_max_7cf53 1 = .ok (.iload_n 1, 1) := by decide +kernel
theorem dJ9_max_7cf53_2 : decode cJ9_max_7cf53 2 = .ok (.if_icmp .lt 7, 3) := by decide +kernel
theorem dJ9_max_7cf53_5 : decode cJ9_max_7cf53 5 = .ok (.iload_n 0, 1) := by decide +kernel
theorem dJ9_max_7cf53_6 : decode cJ9_max_7cf53 6 = .ok (.goto 4, 3) := by decide +kernel
theorem dJ9_max_7cf53_9 : decode cJ9_max_7cf53 9 = .ok (.iload_n 1, 1) := by decide +kernel
theorem dJ9_max_7cf53_10 : decode cJ9_max_7cf53 10 = .ok (.ireturn, 1) := by decide +kernel
theorem dJ9_min_7cf53_0 : decode cJ9_min_7cf53 0 = .ok (.iload_n 0, 1) := by decide +kernel
theorem dJ9_min_7cf53_1 : decode cJ9_min_7cf53 1 = .ok (.iload_n 1, 1) := by decide +kernel
theorem dJ9_min_7cf53_2 : decode cJ9_min_7cf53 2 = .ok (.if_icmp .gt 7, 3) := by decide +kernel
theorem dJ9_min_7cf53_5 : decode cJ9_min_7cf53 5 = .ok (.iload_n 0, 1) := by decide +kernel
theorem dJ9_min_7cf53_6 : decode cJ9_min_7cf53 6 = .ok (.goto 4, 3) := by decide +kernel
theorem dJ9_min_7cf53_9 : decode cJ9_min_7cf53 9 = .ok (.iload_n 1, 1) := by decide +kernel
theorem dJ9_min_7cf53_10 : decode cJ9_min_7cf53 10 = .ok (.ireturn, 1) := by decide +kernel
theorem dJ0_length_8abf5_0 : decode cJ0_length_8abf5 0 = .ok (.aload_n 0, 1) := by decide +kernel
theorem dJ0_length_8abf5_1 : decode cJ0_length_8abf5 1 = .ok (.getfield 9, 3) := by decide +kernel
theorem dJ0_length_8abf5_4 : decode cJ0_length_8abf5 4 = .ok (.arraylength, 1) := by decide +kernel
theorem dJ0_length_8abf5_5 : decode cJ0_length_8abf5 5 = .ok (.aload_n 0, 1) := by decide +kernel
theorem dJ0_length_8abf5_6 : decode cJ0_length_8abf5 6 = .ok (.invokevirtual 335, 3) := by decide +kernel
theorem dJ0_length_8abf5_9 : decode cJ0_length_8abf5 9 = .ok (.ishr, 1) := by decide +kernel
theorem dJ0_length_8abf5_10 : decode cJ0_length_8abf5 10 = .ok (.ireturn, 1) := by decide +kernel
theorem dJ0_charAt_5068e_0 : decode cJ0_charAt_5068e 0 = .ok (.aload_n 0, 1) := by decide +kernel
theorem dJ0_charAt_5068e_1 : decode cJ0_charAt_5068e 1 = .ok (.invokevirtual 492, 3) := by decide +kernel
theorem dJ0_charAt_5068e_4 : decode cJ0_charAt_5068e 4 = .ok (.ifCond .eq 12, 3) := by decide +kernel
theorem dJ0_charAt_5068e_7 : decode cJ0_charAt_5068e 7 = .ok (.aload_n 0, 1) := by decide +kernel
theorem dJ0_charAt_5068e_8 : decode cJ0_charAt_5068e 8 = .ok (.getfield 9, 3) := by decide +kernel
theorem dJ0_charAt_5068e_11 : decode cJ0_charAt_5068e 11 = .ok (.iload_n 1, 1) := by decide +kernel
theorem dJ0_charAt_5068e_12 : decode cJ0_charAt_5068e 12 = .ok (.invokestatic 495, 3) := by decide +kernel
theorem dJ0_charAt_5068e_15 : decode cJ0_charAt_5068e 15 = .ok (.ireturn, 1) := by decide +kernel
theorem dJ0_charAt_5068e_16 : decode cJ0_charAt_5068e 16 = .ok (.aload_n 0, 1) := by decide +kernel
theorem dJ0_charAt_5068e_17 : decode cJ0_charAt_5068e 17 = .ok (.getfield 9, 3) := by decide +kernel
theorem dJ0_charAt_5068e_20 : decode cJ0_charAt_5068e 20 = .ok (.iload_n 1, 1) := by decide +kernel
theorem dJ0_charAt_5068e_21 : decode cJ0_charAt_5068e 21 = .ok (.invokestatic 498, 3) := by decide +kernel
theorem dJ0_charAt_5068e_24 : decode cJ0_charAt_5068e 24 = .ok (.ireturn, 1) := by decide +kernel
theorem dJ0_coder_7d493_0 : decode cJ0_coder_7d493 0 = .ok (.getstatic 38, 3) := by decide +kernel
theorem dJ0_coder_7d493_3 : decode cJ0_coder_7d493 3 = .ok (.ifCond .eq 10, 3) := by decide +kernel
theorem dJ0_coder_7d493_6 : decode cJ0_coder_7d493 6 = .ok (.aload_n 0, 1) := by decide +kernel
theorem dJ0_coder_7d493_7 : decode cJ0_coder_7d493 7 = .ok (.getfield 15, 3) := by decide +kernel
theorem dJ0_coder_7d493_10 : decode cJ0_coder_7d493 10 = .ok (.goto 4, 3) := by decide +kernel
theorem dJ0_coder_7d493_13 : decode cJ0_coder_7d493 13 = .ok (.iconst 1, 1) := by decide +kernel
theorem dJ0_coder_7d493_14 : decode cJ0_coder_7d493 14 = .ok (.ireturn, 1) := by decide +kernel
theorem dJ0_isLatin1_aae02_0 : decode cJ0_isLatin1_aae02 0 = .ok (.getstatic 38, 3) := by decide +kernel
theorem dJ0_isLatin1_aae02_3 : decode cJ0_isLatin1_aae02 3 = .ok (.ifCond .eq 14, 3) := by decide +kernel
theorem dJ0_isLatin1_aae02_6 : decode cJ0_isLatin1_aae02 6 = .ok (.aload_n 0, 1) := by decide +kernel
theorem dJ0_isLatin1_aae02_7 : decode cJ0_isLatin1_aae02 7 = .ok (.getfield 15, 3) := by decide +kernel
theorem dJ0_isLatin1_aae02_10 : decode cJ0_isLatin1_aae02 10 = .ok (.ifCond .ne 7, 3) := by decide +kernel
theorem dJ0_isLatin1_aae02_13 : decode cJ0_isLatin1_aae02 13 = .ok (.iconst 1, 1) := by decide +kernel
theorem dJ0_isLatin1_aae02_14 : decode cJ0_isLatin1_aae02 14 = .ok (.goto 4, 3) := by decide +kernel
theorem dJ0_isLatin1_aae02_17 : decode cJ0_isLatin1_aae02 17 = .ok (.iconst 0, 1) := by decide +kernel
theorem dJ0_isLatin1_aae02_18 : decode cJ0_isLatin1_aae02 18 = .ok (.ireturn, 1) := by decide +kernel
theorem dJ0_checkIndex_df160_0 : decode cJ0_checkIndex_df160 0 = .ok (.iload_n 0, 1) := by decide +kernel
theorem dJ0_checkIndex_df160_1 : decode cJ0_checkIndex_df160 1 = .ok (.iload_n 1, 1) := by decide +kernel
theorem dJ0_checkIndex_df160_2 : decode cJ0_checkIndex_df160 2 = .ok (.getstatic 1053, 3) := by decide +kernel
theorem dJ0_checkIndex_df160_5 : decode cJ0_checkIndex_df160 5 = .ok (.invokestatic 1059, 3) := by decide +kernel
theorem dJ0_checkIndex_df160_8 : decode cJ0_checkIndex_df160 8 = .ok (.pop, 1) := by decide +kernel
theorem dJ0_checkIndex_df160_9 : decode cJ0_checkIndex_df160 9 = .ok (.return_, 1) := by decide +kernel
theorem dJ1_charAt_3b067_0 : decode cJ1_charAt_3b067 0 = .ok (.iload_n 1, 1) := by decide +kernel
theorem dJ1_charAt_3b067_1 : decode cJ1_charAt_3b067 1 = .ok (.aload_n 0, 1) := by decide +kernel
theorem dJ1_charAt_3b067_2 : decode cJ1_charAt_3b067 2 = .ok (.arraylength, 1) := by decide +kernel
theorem dJ1_charAt_3b067_3 : decode cJ1_charAt_3b067 3 = .ok (.invokestatic 9, 3) := by decide +kernel
theorem dJ1_charAt_3b067_6 : decode cJ1_charAt_3b067 6 = .ok (.aload_n 0, 1) := by decide +kernel
theorem dJ1_charAt_3b067_7 : decode cJ1_charAt_3b067 7 = .ok (.iload_n 1, 1) := by decide +kernel
theorem dJ1_charAt_3b067_8 : decode cJ1_charAt_3b067 8 = .ok (.baload, 1) := by decide +kernel
theorem dJ1_charAt_3b067_9 : decode cJ1_charAt_3b067 9 = .ok (.sipush 255, 3) := by decide +kernel
theorem dJ1_charAt_3b067_12 : decode cJ1_charAt_3b067 12 = .ok (.iand, 1) := by decide +kernel
theorem dJ1_charAt_3b067_13 : decode cJ1_charAt_3b067 13 = .ok (.i2c, 1) := by decide +kernel
theorem dJ1_charAt_3b067_14 : decode cJ1_charAt_3b067 14 = .ok (.ireturn, 1) := by decide +kernel
theorem dJ2_getChar_3b067_0 : decode cJ2_getChar_3b067 0 = .ok (.getstatic 44, 3) := by decide +kernel
theorem dJ2_getChar_3b067_3 : decode cJ2_getChar_3b067 3 = .ok (.ifCond .ne 25, 3) := by decide +kernel
theorem dJ2_getChar_3b067_6 : decode cJ2_getChar_3b067 6 = .ok (.iload_n 1, 1) := by decide +kernel
theorem dJ2_getChar_3b067_7 : decode cJ2_getChar_3b067 7 = .ok (.ifCond .lt 11, 3) := by decide +kernel
theorem dJ2_getChar_3b067_10 : decode cJ2_getChar_3b067 10 = .ok (.iload_n 1, 1) := by decide +kernel
theorem dJ2_getChar_3b067_11 : decode cJ2_getChar_3b067 11 = .ok (.aload_n 0, 1) := by decide +kernel
theorem dJ2_getChar_3b067_12 : decode cJ2_getChar_3b067 12 = .ok (.invokestatic 48, 3) := by decide +kernel
theorem dJ2_getChar_3b067_15 : decode cJ2_getChar_3b067 15 = .ok (.if_icmp .lt 13, 3) := by decide +kernel
theorem dJ2_getChar_3b067_18 : decode cJ2_getChar_3b067 18 = .ok (.new 52, 3) := by decide +kernel
theorem dJ2_getChar_3b067_21 : decode cJ2_getChar_3b067 21 = .ok (.dup, 1) := by decide +kernel
theorem dJ2_getChar_3b067_22 : decode cJ2_getChar_3b067 22 = .ok (.ldc 54, 2) := by decide +kernel
theorem dJ2_getChar_3b067_24 : decode cJ2_getChar_3b067 24 = .ok (.invokespecial 56, 3) := by decide +kernel
theorem dJ2_getChar_3b067_27 : decode cJ2_getChar_3b067 27 = .ok (.athrow, 1) := by decide +kernel
theorem dJ2_getChar_3b067_28 : decode cJ2_getChar_3b067 28 = .ok (.iload_n 1, 1) := by decide +kernel
theorem dJ2_getChar_3b067_29 : decode cJ2_getChar_3b067 29 = .ok (.iconst 1, 1) := by decide +kernel
theorem dJ2_getChar_3b067_30 : decode cJ2_getChar_3b067 30 = .ok (.ishl, 1) := by decide +kernel
theorem dJ2_getChar_3b067_31 : decode cJ2_getChar_3b067 31 = .ok (.istore_n 1, 1) := by decide +kernel
theorem dJ2_getChar_3b067_32 : decode cJ2_getChar_3b067 32 = .ok (.aload_n 0, 1) := by decide +kernel
theorem dJ2_getChar_3b067_33 : decode cJ2_getChar_3b067 33 = .ok (.iload_n 1, 1) := by decide +kernel
theorem dJ2_getChar_3b067_34 : decode cJ2_getChar_3b067 34 = .ok (.iinc 1 1, 3) := by decide +kernel
theorem dJ2_getChar_3b067_37 : decode cJ2_getChar_3b067 37 = .ok (.baload, 1) := by decide +kernel
theorem dJ2_getChar_3b067_38 : decode cJ2_getChar_3b067 38 = .ok (.sipush 255, 3) := by decide +kernel
theorem dJ2_getChar_3b067_41 : decode cJ2_getChar_3b067 41 = .ok (.iand, 1) := by decide +kernel
theorem dJ2_getChar_3b067_42 : decode cJ2_getChar_3b067 42 = .ok (.getstatic 59, 3) := by decide +kernel
theorem dJ2_getChar_3b067_45 : decode cJ2_getChar_3b067 45 = .ok (.ishl, 1) := by decide +kernel
theorem dJ2_getChar_3b067_46 : decode cJ2_getChar_3b067 46 = .ok (.aload_n 0, 1) := by decide +kernel
theorem dJ2_getChar_3b067_47 : decode cJ2_getChar_3b067 47 = .ok (.iload_n 1, 1) := by decide +kernel
theorem dJ2_getChar_3b067_48 : decode cJ2_getChar_3b067 48 = .ok (.baload, 1) := by decide +kernel
theorem dJ2_getChar_3b067_49 : decode cJ2_getChar_3b067 49 = .ok (.sipush 255, 3) := by decide +kernel
theorem dJ2_getChar_3b067_52 : decode cJ2_getChar_3b067 52 = .ok (.iand, 1) := by decide +kernel
theorem dJ2_getChar_3b067_53 : decode cJ2_getChar_3b067 53 = .ok (.getstatic 63, 3) := by decide +kernel
theorem dJ2_getChar_3b067_56 : decode cJ2_getChar_3b067 56 = .ok (.ishl, 1) := by decide +kernel
theorem dJ2_getChar_3b067_57 : decode cJ2_getChar_3b067 57 = .ok (.ior, 1) := by decide +kernel
theorem dJ2_getChar_3b067_58 : decode cJ2_getChar_3b067 58 = .ok (.i2c, 1) := by decide +kernel
theorem dJ2_getChar_3b067_59 : decode cJ2_getChar_3b067 59 = .ok (.ireturn, 1) := by decide +kernel
theorem dJ2_length_9d52b_0 : decode cJ2_length_9d52b 0 = .ok (.aload_n 0, 1) := by decide +kernel
theorem dJ2_length_9d52b_1 : decode cJ2_length_9d52b 1 = .ok (.arraylength, 1) := by decide +kernel
theorem dJ2_length_9d52b_2 : decode cJ2_length_9d52b 2 = .ok (.iconst 1, 1) := by decide +kernel
theorem dJ2_length_9d52b_3 : decode cJ2_length_9d52b 3 = .ok (.ishr, 1) := by decide +kernel
theorem dJ2_length_9d52b_4 : decode cJ2_length_9d52b 4 = .ok (.ireturn, 1) := by decide +kernel
theorem dJ2_charAt_3b067_0 : decode cJ2_charAt_3b067 0 = .ok (.iload_n 1, 1) := by decide +kernel
theorem dJ2_charAt_3b067_1 : decode cJ2_charAt_3b067 1 = .ok (.aload_n 0, 1) := by decide +kernel
theorem dJ2_charAt_3b067_2 : decode cJ2_charAt_3b067 2 = .ok (.invokestatic 67, 3) := by decide +kernel
theorem dJ2_charAt_3b067_5 : decode cJ2_charAt_3b067 5 = .ok (.aload_n 0, 1) := by decide +kernel
theorem dJ2_charAt_3b067_6 : decode cJ2_charAt_3b067 6 = .ok (.iload_n 1, 1) := by decide +kernel
theorem dJ2_charAt_3b067_7 : decode cJ2_charAt_3b067 7 = .ok (.invokestatic 71, 3) := by decide +kernel
theorem dJ2_charAt_3b067_10 : decode cJ2_charAt_3b067 10 = .ok (.ireturn, 1) := by decide +kernel
theorem dJ2_checkIndex_2214a_0 : decode cJ2_checkIndex_2214a 0 = .ok (.iload_n 0, 1) := by decide +kernel
theorem dJ2_checkIndex_2214a_1 : decode cJ2_checkIndex_2214a 1 = .ok (.aload_n 1, 1) := by decide +kernel
theorem dJ2_checkIndex_2214a_2 : decode cJ2_checkIndex_2214a 2 = .ok (.invokestatic 48, 3) := by decide +kernel
theorem dJ2_checkIndex_2214a_5 : decode cJ2_checkIndex_2214a 5 = .ok (.invokestatic 414, 3) := by decide +kernel
theorem dJ2_checkIndex_2214a_8 : decode cJ2_checkIndex_2214a 8 = .ok (.return_, 1) := by decide +kernel
theorem dJ3_checkIndex_8e157_0 : decode cJ3_checkIndex_8e157 0 = .ok (.iload_n 0, 1) := by decide +kernel
theorem dJ3_checkIndex_8e157_1 : decode cJ3_checkIndex_8e157 1 = .ok (.ifCond .lt 8, 3) := by decide +kernel
theorem dJ3_checkIndex_8e157_4 : decode cJ3_checkIndex_8e157 4 = .ok (.iload_n 0, 1) := by decide +kernel
theorem dJ3_checkIndex_8e157_5 : decode cJ3_checkIndex_8e157 5 = .ok (.iload_n 1, 1) := by decide +kernel
theorem dJ3_checkIndex_8e157_6 : decode cJ3_checkIndex_8e157 6 = .ok (.if_icmp .lt 10, 3) := by decide +kernel
theorem dJ3_checkIndex_8e157_9 : decode cJ3_checkIndex_8e157 9 = .ok (.aload_n 2, 1) := by decide +kernel
theorem dJ3_checkIndex_8e157_10 : decode cJ3_checkIndex_8e157 10 = .ok (.iload_n 0, 1) := by decide +kernel
theorem dJ3_checkIndex_8e157_11 : decode cJ3_checkIndex_8e157 11 = .ok (.iload_n 1, 1) := by decide +kernel
theorem dJ3_checkIndex_8e157_12 : decode cJ3_checkIndex_8e157 12 = .ok (.invokestatic 95, 3) := by decide +kernel
theorem dJ3_checkIndex_8e157_15 : decode cJ3_checkIndex_8e157 15 = .ok (.athrow, 1) := by decide +kernel
theorem dJ3_checkIndex_8e157_16 : decode cJ3_checkIndex_8e157 16 = .ok (.iload_n 0, 1) := by decide +kernel
theorem dJ3_checkIndex_8e157_17 : decode cJ3_checkIndex_8e157 17 = .ok (.ireturn, 1) := by decide +kernel
theorem dL_law_0 : decode cL_law 0 = .ok (.new 7, 3) := by decide +kernel
theorem dL_law_3 : decode cL_law 3 = .ok (.dup, 1) := by decide +kernel
theorem dL_law_4 : decode cL_law 4 = .ok (.invokespecial 9, 3) := by decide +kernel
theorem dL_law_7 : decode cL_law 7 = .ok (.astore_n 1, 1) := by decide +kernel
theorem dL_law_8 : decode cL_law 8 = .ok (.new 10, 3) := by decide +kernel
theorem dL_law_11 : decode cL_law 11 = .ok (.dup, 1) := by decide +kernel
theorem dL_law_12 : decode cL_law 12 = .ok (.invokespecial 12, 3) := by decide +kernel
theorem dL_law_15 : decode cL_law 15 = .ok (.astore_n 2, 1) := by decide +kernel
theorem dL_law_16 : decode cL_law 16 = .ok (.iconst 0, 1) := by decide +kernel
theorem dL_law_17 : decode cL_law 17 = .ok (.istore_n 3, 1) := by decide +kernel
theorem dL_law_18 : decode cL_law 18 = .ok (.iload_n 3, 1) := by decide +kernel
theorem dL_law_19 : decode cL_law 19 = .ok (.aload_n 0, 1) := by decide +kernel
theorem dL_law_20 : decode cL_law 20 = .ok (.arraylength, 1) := by decide +kernel
theorem dL_law_21 : decode cL_law 21 = .ok (.bipush 6, 2) := by decide +kernel
theorem dL_law_23 : decode cL_law 23 = .ok (.isub, 1) := by decide +kernel
theorem dL_law_24 : decode cL_law 24 = .ok (.if_icmp .gt 1512, 3) := by decide +kernel
theorem dL_law_27 : decode cL_law 27 = .ok (.aload_n 0, 1) := by decide +kernel
theorem dL_law_28 : decode cL_law 28 = .ok (.iload_n 3, 1) := by decide +kernel
theorem dL_law_29 : decode cL_law 29 = .ok (.iaload, 1) := by decide +kernel
theorem dL_law_30 : decode cL_law 30 = .ok (.bipush 63, 2) := by decide +kernel
theorem dL_law_32 : decode cL_law 32 = .ok (.iand, 1) := by decide +kernel
theorem dL_law_33 : decode cL_law 33 = .ok (.tableswitch 1497 0 45 #[199, 222, 255, 298, 331, 364, 387, 410, 443, 466, 509, 542, 585, 608, 631, 654, 687, 710, 733, 766, 799, 822, 845, 878, 901, 934, 967, 1000, 1023, 1046, 1069, 1092, 1125, 1138, 1151, 1184, 1217, 1260, 1303, 1366, 1389, 1412, 1425, 1438, 1451, 1474], 199) := by decide +kernel
theorem dL_law_232 : decode cL_law 232 = .ok (.aload_n 1, 1) := by decide +kernel
theorem dL_law_233 : decode cL_law 233 = .ok (.aload_n 0, 1) := by decide +kernel
theorem dL_law_234 : decode cL_law 234 = .ok (.iload_n 3, 1) := by decide +kernel
theorem dL_law_235 : decode cL_law 235 = .ok (.iconst 1, 1) := by decide +kernel
theorem dL_law_236 : decode cL_law 236 = .ok (.iadd, 1) := by decide +kernel
theorem dL_law_237 : decode cL_law 237 = .ok (.iaload, 1) := by decide +kernel
theorem dL_law_238 : decode cL_law 238 = .ok (.invokevirtual 13, 3) := by decide +kernel
theorem dL_law_241 : decode cL_law 241 = .ok (.aload_n 2, 1) := by decide +kernel
theorem dL_law_242 : decode cL_law 242 = .ok (.aload_n 0, 1) := by decide +kernel
theorem dL_law_243 : decode cL_law 243 = .ok (.iload_n 3, 1) := by decide +kernel
theorem dL_law_244 : decode cL_law 244 = .ok (.iconst 1, 1) := by decide +kernel
theorem dL_law_245 : decode cL_law 245 = .ok (.iadd, 1) := by decide +kernel
theorem dL_law_246 : decode cL_law 246 = .ok (.iaload, 1) := by decide +kernel
theorem dL_law_247 : decode cL_law 247 = .ok (.invokevirtual 17, 3) := by decide +kernel
theorem dL_law_250 : decode cL_law 250 = .ok (.if_icmp .eq 1280, 3) := by decide +kernel
theorem dL_law_253 : decode cL_law 253 = .ok (.iconst 0, 1) := by decide +kernel
theorem dL_law_254 : decode cL_law 254 = .ok (.ireturn, 1) := by decide +kernel
theorem dL_law_255 : decode cL_law 255 = .ok (.aload_n 1, 1) := by decide +kernel
theorem dL_law_256 : decode cL_law 256 = .ok (.aload_n 0, 1) := by decide +kernel
theorem dL_law_257 : decode cL_law 257 = .ok (.iload_n 3, 1) := by decide +kernel
theorem dL_law_258 : decode cL_law 258 = .ok (.iconst 1, 1) := by decide +kernel
theorem dL_law_259 : decode cL_law 259 = .ok (.iadd, 1) := by decide +kernel
theorem dL_law_260 : decode cL_law 260 = .ok (.iaload, 1) := by decide +kernel
theorem dL_law_261 : decode cL_law 261 = .ok (.aload_n 0, 1) := by decide +kernel
theorem dL_law_262 : decode cL_law 262 = .ok (.iload_n 3, 1) := by decide +kernel
theorem dL_law_263 : decode cL_law 263 = .ok (.iconst 2, 1) := by decide +kernel
theorem dL_law_264 : decode cL_law 264 = .ok (.iadd, 1) := by decide +kernel
theorem dL_law_265 : decode cL_law 265 = .ok (.iaload, 1) := by decide +kernel
theorem dL_law_266 : decode cL_law 266 = .ok (.invokevirtual 18, 3) := by decide +kernel
theorem dL_law_269 : decode cL_law 269 = .ok (.aload_n 2, 1) := by decide +kernel
theorem dL_law_270 : decode cL_law 270 = .ok (.aload_n 0, 1) := by decide +kernel
theorem dL_law_271 : decode cL_law 271 = .ok (.iload_n 3, 1) := by decide +kernel
theorem dL_law_272 : decode cL_law 272 = .ok (.iconst 1, 1) := by decide +kernel
theorem dL_law_273 : decode cL_law 273 = .ok (.iadd, 1) := by decide +kernel
theorem dL_law_274 : decode cL_law 274 = .ok (.iaload, 1) := by decide +kernel
theorem dL_law_275 : decode cL_law 275 = .ok (.aload_n 0, 1) := by decide +kernel
theorem dL_law_276 : decode cL_law 276 = .ok (.iload_n 3, 1) := by decide +kernel
theorem dL_law_277 : decode cL_law 277 = .ok (.iconst 2, 1) := by decide +kernel
theorem dL_law_278 : decode cL_law 278 = .ok (.iadd, 1) := by decide +kernel
theorem dL_law_279 : decode cL_law 279 = .ok (.iaload, 1) := by decide +kernel
theorem dL_law_280 : decode cL_law 280 = .ok (.invokevirtual 22, 3) := by decide +kernel
theorem dL_law_283 : decode cL_law 283 = .ok (.if_icmp .eq 1247, 3) := by decide +kernel
theorem dL_law_286 : decode cL_law 286 = .ok (.iconst 0, 1) := by decide +kernel
theorem dL_law_287 : decode cL_law 287 = .ok (.ireturn, 1) := by decide +kernel
theorem dL_law_288 : decode cL_law 288 = .ok (.aload_n 1, 1) := by decide +kernel
theorem dL_law_289 : decode cL_law 289 = .ok (.aload_n 0, 1) := by decide +kernel
theorem dL_law_290 : decode cL_law 290 = .ok (.iload_n 3, 1) := by decide +kernel
theorem dL_law_291 : decode cL_law 291 = .ok (.iconst 1, 1) := by decide +kernel
theorem dL_law_292 : decode cL_law 292 = .ok (.iadd, 1) := by decide +kernel
theorem dL_law_293 : decode cL_law 293 = .ok (.iaload, 1) := by decide +kernel
theorem dL_law_294 : decode cL_law 294 = .ok (.aload_n 0, 1) := by decide +kernel
theorem dL_law_295 : decode cL_law 295 = .ok (.iload_n 3, 1) := by decide +kernel
theorem dL_law_296 : decode cL_law 296 = .ok (.iconst 2, 1) := by decide +kernel
theorem dL_law_297 : decode cL_law 297 = .ok (.iadd, 1) := by decide +kernel
theorem dL_law_298 : decode cL_law 298 = .ok (.iaload, 1) := by decide +kernel
theorem dL_law_299 : decode cL_law 299 = .ok (.aload_n 0, 1) := by decide +kernel
theorem dL_law_300 : decode cL_law 300 = .ok (.iload_n 3, 1) := by decide +kernel
theorem dL_law_301 : decode cL_law 301 = .ok (.iconst 3, 1) := by decide +kernel
theorem dL_law_302 : decode cL_law 302 = .ok (.iadd, 1) := by decide +kernel
theorem dL_law_303 : decode cL_law 303 = .ok (.iaload, 1) := by decide +kernel
theorem dL_law_304 : decode cL_law 304 = .ok (.invokevirtual 23, 3) := by decide +kernel
theorem dL_law_307 : decode cL_law 307 = .ok (.aload_n 2, 1) := by decide +kernel
theorem dL_law_308 : decode cL_law 308 = .ok (.aload_n 0, 1) := by decide +kernel
theorem dL_law_309 : decode cL_law 309 = .ok (.iload_n 3, 1) := by decide +kernel
theorem dL_law_310 : decode cL_law 310 = .ok (.iconst 1, 1) := by decide +kernel
theorem dL_law_311 : decode cL_law 311 = .ok (.iadd, 1) := by decide +kernel
theorem dL_law_312 : decode cL_law 312 = .ok (.iaload, 1) := by decide +kernel
theorem dL_law_313 : decode cL_law 313 = .ok (.aload_n 0, 1) := by decide +kernel
theorem dL_law_314 : decode cL_law 314 = .ok (.iload_n 3, 1) := by decide +kernel
theorem dL_law_315 : decode cL_law 315 = .ok (.iconst 2, 1) := by decide +kernel
theorem dL_law_316 : decode cL_law 316 = .ok (.iadd, 1) := by decide +kernel
theorem dL_law_317 : decode cL_law 317 = .ok (.iaload, 1) := by decide +kernel
theorem dL_law_318 : decode cL_law 318 = .ok (.aload_n 0, 1) := by decide +kernel
theorem dL_law_319 : decode cL_law 319 = .ok (.iload_n 3, 1) := by decide +kernel
theorem dL_law_320 : decode cL_law 320 = .ok (.iconst 3, 1) := by decide +kernel
theorem dL_law_321 : decode cL_law 321 = .ok (.iadd, 1) := by decide +kernel
theorem dL_law_322 : decode cL_law 322 = .ok (.iaload, 1) := by decide +kernel
theorem dL_law_323 : decode cL_law 323 = .ok (.invokevirtual 27, 3) := by decide +kernel
theorem dL_law_326 : decode cL_law 326 = .ok (.if_icmp .eq 1204, 3) := by decide +kernel
theorem dL_law_329 : decode cL_law 329 = .ok (.iconst 0, 1) := by decide +kernel
theorem dL_law_330 : decode cL_law 330 = .ok (.ireturn, 1) := by decide +kernel
theorem dL_law_331 : decode cL_law 331 = .ok (.aload_n 1, 1) := by decide +kernel
theorem dL_law_332 : decode cL_law 332 = .ok (.aload_n 0, 1) := by decide +kernel
theorem dL_law_333 : decode cL_law 333 = .ok (.iload_n 3, 1) := by decide +kernel
theorem dL_law_334 : decode cL_law 334 = .ok (.iconst 1, 1) := by decide +kernel
theorem dL_law_335 : decode cL_law 335 = .ok (.iadd, 1) := by decide +kernel
theorem dL_law_336 : decode cL_law 336 = .ok (.iaload, 1) := by decide +kernel
theorem dL_law_337 : decode cL_law 337 = .ok (.aload_n 0, 1) := by decide +kernel
theorem dL_law_338 : decode cL_law 338 = .ok (.iload_n 3, 1) := by decide +kernel
theorem dL_law_339 : decode cL_law 339 = .ok (.iconst 2, 1) := by decide +kernel
theorem dL_law_340 : decode cL_law 340 = .ok (.iadd, 1) := by decide +kernel
theorem dL_law_341 : decode cL_law 341 = .ok (.iaload, 1) := by decide +kernel
theorem dL_law_342 : decode cL_law 342 = .ok (.invokevirtual 28, 3) := by decide +kernel
theorem dL_law_345 : decode cL_law 345 = .ok (.aload_n 2, 1) := by decide +kernel
theorem dL_law_346 : decode cL_law 346 = .ok (.aload_n 0, 1) := by decide +kernel
theorem dL_law_347 : decode cL_law 347 = .ok (.iload_n 3, 1) := by decide +kernel
theorem dL_law_348 : decode cL_law 348 = .ok (.iconst 1, 1) := by decide +kernel
theorem dL_law_349 : decode cL_law 349 = .ok (.iadd, 1) := by decide +kernel
theorem dL_law_350 : decode cL_law 350 = .ok (.iaload, 1) := by decide +kernel
theorem dL_law_351 : decode cL_law 351 = .ok (.aload_n 0, 1) := by decide +kernel
theorem dL_law_352 : decode cL_law 352 = .ok (.iload_n 3, 1) := by decide +kernel
theorem dL_law_353 : decode cL_law 353 = .ok (.iconst 2, 1) := by decide +kernel
theorem dL_law_354 : decode cL_law 354 = .ok (.iadd, 1) := by decide +kernel
theorem dL_law_355 : decode cL_law 355 = .ok (.iaload, 1) := by decide +kernel
theorem dL_law_356 : decode cL_law 356 = .ok (.invokevirtual 31, 3) := by decide +kernel
theorem dL_law_359 : decode cL_law 359 = .ok (.if_icmp .eq 1171, 3) := by decide +kernel
theorem dL_law_362 : decode cL_law 362 = .ok (.iconst 0, 1) := by decide +kernel
theorem dL_law_363 : decode cL_law 363 = .ok (.ireturn, 1) := by decide +kernel
theorem dL_law_364 : decode cL_law 364 = .ok (.aload_n 1, 1) := by decide +kernel
theorem dL_law_365 : decode cL_law 365 = .ok (.aload_n 0, 1) := by decide +kernel
theorem dL_law_366 : decode cL_law 366 = .ok (.iload_n 3, 1) := by decide +kernel
theorem dL_law_367 : decode cL_law 367 = .ok (.iconst 1, 1) := by decide +kernel
theorem dL_law_368 : decode cL_law 368 = .ok (.iadd, 1) := by decide +kernel
theorem dL_law_369 : decode cL_law 369 = .ok (.iaload, 1) := by decide +kernel
theorem dL_law_370 : decode cL_law 370 = .ok (.aload_n 0, 1) := by decide +kernel
theorem dL_law_371 : decode cL_law 371 = .ok (.iload_n 3, 1) := by decide +kernel
theorem dL_law_372 : decode cL_law 372 = .ok (.iconst 2, 1) := by decide +kernel
theorem dL_law_373 : decode cL_law 373 = .ok (.iadd, 1) := by decide +kernel
theorem dL_law_374 : decode cL_law 374 = .ok (.iaload, 1) := by decide +kernel
theorem dL_law_375 : decode cL_law 375 = .ok (.invokevirtual 32, 3) := by decide +kernel
theorem dL_law_378 : decode cL_law 378 = .ok (.aload_n 2, 1) := by decide +kernel
theorem dL_law_379 : decode cL_law 379 = .ok (.aload_n 0, 1) := by decide +kernel
theorem dL_law_380 : decode cL_law 380 = .ok (.iload_n 3, 1) := by decide +kernel
theorem dL_law_381 : decode cL_law 381 = .ok (.iconst 1, 1) := by decide +kernel
theorem dL_law_382 : decode cL_law 382 = .ok (.iadd, 1) := by decide +kernel
theorem dL_law_383 : decode cL_law 383 = .ok (.iaload, 1) := by decide +kernel
theorem dL_law_384 : decode cL_law 384 = .ok (.aload_n 0, 1) := by decide +kernel
theorem dL_law_385 : decode cL_law 385 = .ok (.iload_n 3, 1) := by decide +kernel
theorem dL_law_386 : decode cL_law 386 = .ok (.iconst 2, 1) := by decide +kernel
theorem dL_law_387 : decode cL_law 387 = .ok (.iadd, 1) := by decide +kernel
theorem dL_law_388 : decode cL_law 388 = .ok (.iaload, 1) := by decide +kernel
theorem dL_law_389 : decode cL_law 389 = .ok (.invokevirtual 35, 3) := by decide +kernel
theorem dL_law_392 : decode cL_law 392 = .ok (.if_icmp .eq 1138, 3) := by decide +kernel
theorem dL_law_395 : decode cL_law 395 = .ok (.iconst 0, 1) := by decide +kernel
theorem dL_law_396 : decode cL_law 396 = .ok (.ireturn, 1) := by decide +kernel
theorem dL_law_397 : decode cL_law 397 = .ok (.aload_n 1, 1) := by decide +kernel
theorem dL_law_398 : decode cL_law 398 = .ok (.aload_n 0, 1) := by decide +kernel
theorem dL_law_399 : decode cL_law 399 = .ok (.iload_n 3, 1) := by decide +kernel
theorem dL_law_400 : decode cL_law 400 = .ok (.iconst 1, 1) := by decide +kernel
theorem dL_law_401 : decode cL_law 401 = .ok (.iadd, 1) := by decide +kernel
theorem dL_law_402 : decode cL_law 402 = .ok (.iaload, 1) := by decide +kernel
theorem dL_law_403 : decode cL_law 403 = .ok (.invokevirtual 36, 3) := by decide +kernel
theorem dL_law_406 : decode cL_law 406 = .ok (.aload_n 2, 1) := by decide +kernel
theorem dL_law_407 : decode cL_law 407 = .ok (.aload_n 0, 1) := by decide +kernel
theorem dL_law_408 : decode cL_law 408 = .ok (.iload_n 3, 1) := by decide +kernel
theorem dL_law_409 : decode cL_law 409 = .ok (.iconst 1, 1) := by decide +kernel
theorem dL_law_410 : decode cL_law 410 = .ok (.iadd, 1) := by decide +kernel
theorem dL_law_411 : decode cL_law 411 = .ok (.iaload, 1) := by decide +kernel
theorem dL_law_412 : decode cL_law 412 = .ok (.invokevirtual 39, 3) := by decide +kernel
theorem dL_law_415 : decode cL_law 415 = .ok (.if_icmp .eq 1115, 3) := by decide +kernel
theorem dL_law_418 : decode cL_law 418 = .ok (.iconst 0, 1) := by decide +kernel
theorem dL_law_419 : decode cL_law 419 = .ok (.ireturn, 1) := by decide +kernel
theorem dL_law_420 : decode cL_law 420 = .ok (.aload_n 1, 1) := by decide +kernel
theorem dL_law_421 : decode cL_law 421 = .ok (.aload_n 0, 1) := by decide +kernel
theorem dL_law_422 : decode cL_law 422 = .ok (.iload_n 3, 1) := by decide +kernel
theorem dL_law_423 : decode cL_law 423 = .ok (.iconst 1, 1) := by decide +kernel
theorem dL_law_424 : decode cL_law 424 = .ok (.iadd, 1) := by decide +kernel
theorem dL_law_425 : decode cL_law 425 = .ok (.iaload, 1) := by decide +kernel
theorem dL_law_426 : decode cL_law 426 = .ok (.invokevirtual 40, 3) := by decide +kernel
theorem dL_law_429 : decode cL_law 429 = .ok (.aload_n 2, 1) := by decide +kernel
theorem dL_law_430 : decode cL_law 430 = .ok (.aload_n 0, 1) := by decide +kernel
theorem dL_law_431 : decode cL_law 431 = .ok (.iload_n 3, 1) := by decide +kernel
theorem dL_law_432 : decode cL_law 432 = .ok (.iconst 1, 1) := by decide +kernel
theorem dL_law_433 : decode cL_law 433 = .ok (.iadd, 1) := by decide +kernel
theorem dL_law_434 : decode cL_law 434 = .ok (.iaload, 1) := by decide +kernel
theorem dL_law_435 : decode cL_law 435 = .ok (.invokevirtual 43, 3) := by decide +kernel
theorem dL_law_438 : decode cL_law 438 = .ok (.if_icmp .eq 1092, 3) := by decide +kernel
theorem dL_law_441 : decode cL_law 441 = .ok (.iconst 0, 1) := by decide +kernel
theorem dL_law_442 : decode cL_law 442 = .ok (.ireturn, 1) := by decide +kernel
theorem dL_law_443 : decode cL_law 443 = .ok (.aload_n 1, 1) := by decide +kernel
theorem dL_law_444 : decode cL_law 444 = .ok (.aload_n 0, 1) := by decide +kernel
theorem dL_law_445 : decode cL_law 445 = .ok (.iload_n 3, 1) := by decide +kernel
theorem dL_law_446 : decode cL_law 446 = .ok (.iconst 1, 1) := by decide +kernel
theorem dL_law_447 : decode cL_law 447 = .ok (.iadd, 1) := by decide +kernel
theorem dL_law_448 : decode cL_law 448 = .ok (.iaload, 1) := by decide +kernel
theorem dL_law_449 : decode cL_law 449 = .ok (.aload_n 0, 1) := by decide +kernel
theorem dL_law_450 : decode cL_law 450 = .ok (.iload_n 3, 1) := by decide +kernel
theorem dL_law_451 : decode cL_law 451 = .ok (.iconst 2, 1) := by decide +kernel
theorem dL_law_452 : decode cL_law 452 = .ok (.iadd, 1) := by decide +kernel
theorem dL_law_453 : decode cL_law 453 = .ok (.iaload, 1) := by decide +kernel
theorem dL_law_454 : decode cL_law 454 = .ok (.invokevirtual 44, 3) := by decide +kernel
theorem dL_law_457 : decode cL_law 457 = .ok (.aload_n 2, 1) := by decide +kernel
theorem dL_law_458 : decode cL_law 458 = .ok (.aload_n 0, 1) := by decide +kernel
theorem dL_law_459 : decode cL_law 459 = .ok (.iload_n 3, 1) := by decide +kernel
theorem dL_law_460 : decode cL_law 460 = .ok (.iconst 1, 1) := by decide +kernel
theorem dL_law_461 : decode cL_law 461 = .ok (.iadd, 1) := by decide +kernel
theorem dL_law_462 : decode cL_law 462 = .ok (.iaload, 1) := by decide +kernel
theorem dL_law_463 : decode cL_law 463 = .ok (.aload_n 0, 1) := by decide +kernel
theorem dL_law_464 : decode cL_law 464 = .ok (.iload_n 3, 1) := by decide +kernel
theorem dL_law_465 : decode cL_law 465 = .ok (.iconst 2, 1) := by decide +kernel
theorem dL_law_466 : decode cL_law 466 = .ok (.iadd, 1) := by decide +kernel
theorem dL_law_467 : decode cL_law 467 = .ok (.iaload, 1) := by decide +kernel
theorem dL_law_468 : decode cL_law 468 = .ok (.invokevirtual 47, 3) := by decide +kernel
theorem dL_law_471 : decode cL_law 471 = .ok (.if_icmp .eq 1059, 3) := by decide +kernel
theorem dL_law_474 : decode cL_law 474 = .ok (.iconst 0, 1) := by decide +kernel
theorem dL_law_475 : decode cL_law 475 = .ok (.ireturn, 1) := by decide +kernel
theorem dL_law_476 : decode cL_law 476 = .ok (.aload_n 1, 1) := by decide +kernel
theorem dL_law_477 : decode cL_law 477 = .ok (.aload_n 0, 1) := by decide +kernel
theorem dL_law_478 : decode cL_law 478 = .ok (.iload_n 3, 1) := by decide +kernel
theorem dL_law_479 : decode cL_law 479 = .ok (.iconst 1, 1) := by decide +kernel
theorem dL_law_480 : decode cL_law 480 = .ok (.iadd, 1) := by decide +kernel
theorem dL_law_481 : decode cL_law 481 = .ok (.iaload, 1) := by decide +kernel
theorem dL_law_482 : decode cL_law 482 = .ok (.invokevirtual 48, 3) := by decide +kernel
theorem dL_law_485 : decode cL_law 485 = .ok (.aload_n 2, 1) := by decide +kernel
theorem dL_law_486 : decode cL_law 486 = .ok (.aload_n 0, 1) := by decide +kernel
theorem dL_law_487 : decode cL_law 487 = .ok (.iload_n 3, 1) := by decide +kernel
theorem dL_law_488 : decode cL_law 488 = .ok (.iconst 1, 1) := by decide +kernel
theorem dL_law_489 : decode cL_law 489 = .ok (.iadd, 1) := by decide +kernel
theorem dL_law_490 : decode cL_law 490 = .ok (.iaload, 1) := by decide +kernel
theorem dL_law_491 : decode cL_law 491 = .ok (.invokevirtual 51, 3) := by decide +kernel
theorem dL_law_494 : decode cL_law 494 = .ok (.if_icmp .eq 1036, 3) := by decide +kernel
theorem dL_law_497 : decode cL_law 497 = .ok (.iconst 0, 1) := by decide +kernel
theorem dL_law_498 : decode cL_law 498 = .ok (.ireturn, 1) := by decide +kernel
theorem dL_law_499 : decode cL_law 499 = .ok (.aload_n 1, 1) := by decide +kernel
theorem dL_law_500 : decode cL_law 500 = .ok (.aload_n 0, 1) := by decide +kernel
theorem dL_law_501 : decode cL_law 501 = .ok (.iload_n 3, 1) := by decide +kernel
theorem dL_law_502 : decode cL_law 502 = .ok (.iconst 1, 1) := by decide +kernel
theorem dL_law_503 : decode cL_law 503 = .ok (.iadd, 1) := by decide +kernel
theorem dL_law_504 : decode cL_law 504 = .ok (.iaload, 1) := by decide +kernel
theorem dL_law_505 : decode cL_law 505 = .ok (.aload_n 0, 1) := by decide +kernel
theorem dL_law_506 : decode cL_law 506 = .ok (.iload_n 3, 1) := by decide +kernel
theorem dL_law_507 : decode cL_law 507 = .ok (.iconst 2, 1) := by decide +kernel
theorem dL_law_508 : decode cL_law 508 = .ok (.iadd, 1) := by decide +kernel
theorem dL_law_509 : decode cL_law 509 = .ok (.iaload, 1) := by decide +kernel
theorem dL_law_510 : decode cL_law 510 = .ok (.aload_n 0, 1) := by decide +kernel
theorem dL_law_511 : decode cL_law 511 = .ok (.iload_n 3, 1) := by decide +kernel
theorem dL_law_512 : decode cL_law 512 = .ok (.iconst 3, 1) := by decide +kernel
theorem dL_law_513 : decode cL_law 513 = .ok (.iadd, 1) := by decide +kernel
theorem dL_law_514 : decode cL_law 514 = .ok (.iaload, 1) := by decide +kernel
theorem dL_law_515 : decode cL_law 515 = .ok (.invokevirtual 52, 3) := by decide +kernel
theorem dL_law_518 : decode cL_law 518 = .ok (.aload_n 2, 1) := by decide +kernel
theorem dL_law_519 : decode cL_law 519 = .ok (.aload_n 0, 1) := by decide +kernel
theorem dL_law_520 : decode cL_law 520 = .ok (.iload_n 3, 1) := by decide +kernel
theorem dL_law_521 : decode cL_law 521 = .ok (.iconst 1, 1) := by decide +kernel
theorem dL_law_522 : decode cL_law 522 = .ok (.iadd, 1) := by decide +kernel
theorem dL_law_523 : decode cL_law 523 = .ok (.iaload, 1) := by decide +kernel
theorem dL_law_524 : decode cL_law 524 = .ok (.aload_n 0, 1) := by decide +kernel
theorem dL_law_525 : decode cL_law 525 = .ok (.iload_n 3, 1) := by decide +kernel
theorem dL_law_526 : decode cL_law 526 = .ok (.iconst 2, 1) := by decide +kernel
theorem dL_law_527 : decode cL_law 527 = .ok (.iadd, 1) := by decide +kernel
theorem dL_law_528 : decode cL_law 528 = .ok (.iaload, 1) := by decide +kernel
theorem dL_law_529 : decode cL_law 529 = .ok (.aload_n 0, 1) := by decide +kernel
theorem dL_law_530 : decode cL_law 530 = .ok (.iload_n 3, 1) := by decide +kernel
theorem dL_law_531 : decode cL_law 531 = .ok (.iconst 3, 1) := by decide +kernel
theorem dL_law_532 : decode cL_law 532 = .ok (.iadd, 1) := by decide +kernel
theorem dL_law_533 : decode cL_law 533 = .ok (.iaload, 1) := by decide +kernel
theorem dL_law_534 : decode cL_law 534 = .ok (.invokevirtual 55, 3) := by decide +kernel
theorem dL_law_537 : decode cL_law 537 = .ok (.if_icmp .eq 993, 3) := by decide +kernel
theorem dL_law_540 : decode cL_law 540 = .ok (.iconst 0, 1) := by decide +kernel
theorem dL_law_541 : decode cL_law 541 = .ok (.ireturn, 1) := by decide +kernel
theorem dL_law_542 : decode cL_law 542 = .ok (.aload_n 1, 1) := by decide +kernel
theorem dL_law_543 : decode cL_law 543 = .ok (.aload_n 0, 1) := by decide +kernel
theorem dL_law_544 : decode cL_law 544 = .ok (.iload_n 3, 1) := by decide +kernel
theorem dL_law_545 : decode cL_law 545 = .ok (.iconst 1, 1) := by decide +kernel
theorem dL_law_546 : decode cL_law 546 = .ok (.iadd, 1) := by decide +kernel
theorem dL_law_547 : decode cL_law 547 = .ok (.iaload, 1) := by decide +kernel
theorem dL_law_548 : decode cL_law 548 = .ok (.aload_n 0, 1) := by decide +kernel
theorem dL_law_549 : decode cL_law 549 = .ok (.iload_n 3, 1) := by decide +kernel
theorem dL_law_550 : decode cL_law 550 = .ok (.iconst 2, 1) := by decide +kernel
theorem dL_law_551 : decode cL_law 551 = .ok (.iadd, 1) := by decide +kernel
theorem dL_law_552 : decode cL_law 552 = .ok (.iaload, 1) := by decide +kernel
theorem dL_law_553 : decode cL_law 553 = .ok (.invokevirtual 56, 3) := by decide +kernel
theorem dL_law_556 : decode cL_law 556 = .ok (.aload_n 2, 1) := by decide +kernel
theorem dL_law_557 : decode cL_law 557 = .ok (.aload_n 0, 1) := by decide +kernel
theorem dL_law_558 : decode cL_law 558 = .ok (.iload_n 3, 1) := by decide +kernel
theorem dL_law_559 : decode cL_law 559 = .ok (.iconst 1, 1) := by decide +kernel
theorem dL_law_560 : decode cL_law 560 = .ok (.iadd, 1) := by decide +kernel
theorem dL_law_561 : decode cL_law 561 = .ok (.iaload, 1) := by decide +kernel
theorem dL_law_562 : decode cL_law 562 = .ok (.aload_n 0, 1) := by decide +kernel
theorem dL_law_563 : decode cL_law 563 = .ok (.iload_n 3, 1) := by decide +kernel
theorem dL_law_564 : decode cL_law 564 = .ok (.iconst 2, 1) := by decide +kernel
theorem dL_law_565 : decode cL_law 565 = .ok (.iadd, 1) := by decide +kernel
theorem dL_law_566 : decode cL_law 566 = .ok (.iaload, 1) := by decide +kernel
theorem dL_law_567 : decode cL_law 567 = .ok (.invokevirtual 59, 3) := by decide +kernel
theorem dL_law_570 : decode cL_law 570 = .ok (.if_icmp .eq 960, 3) := by decide +kernel
theorem dL_law_573 : decode cL_law 573 = .ok (.iconst 0, 1) := by decide +kernel
theorem dL_law_574 : decode cL_law 574 = .ok (.ireturn, 1) := by decide +kernel
theorem dL_law_575 : decode cL_law 575 = .ok (.aload_n 1, 1) := by decide +kernel
theorem dL_law_576 : decode cL_law 576 = .ok (.aload_n 0, 1) := by decide +kernel
theorem dL_law_577 : decode cL_law 577 = .ok (.iload_n 3, 1) := by decide +kernel
theorem dL_law_578 : decode cL_law 578 = .ok (.iconst 1, 1) := by decide +kernel
theorem dL_law_579 : decode cL_law 579 = .ok (.iadd, 1) := by decide +kernel
theorem dL_law_580 : decode cL_law 580 = .ok (.iaload, 1) := by decide +kernel
theorem dL_law_581 : decode cL_law 581 = .ok (.aload_n 0, 1) := by decide +kernel
theorem dL_law_582 : decode cL_law 582 = .ok (.iload_n 3, 1) := by decide +kernel
theorem dL_law_583 : decode cL_law 583 = .ok (.iconst 2, 1) := by decide +kernel
theorem dL_law_584 : decode cL_law 584 = .ok (.iadd, 1) := by decide +kernel
theorem dL_law_585 : decode cL_law 585 = .ok (.iaload, 1) := by decide +kernel
theorem dL_law_586 : decode cL_law 586 = .ok (.aload_n 0, 1) := by decide +kernel
theorem dL_law_587 : decode cL_law 587 = .ok (.iload_n 3, 1) := by decide +kernel
theorem dL_law_588 : decode cL_law 588 = .ok (.iconst 3, 1) := by decide +kernel
theorem dL_law_589 : decode cL_law 589 = .ok (.iadd, 1) := by decide +kernel
theorem dL_law_590 : decode cL_law 590 = .ok (.iaload, 1) := by decide +kernel
theorem dL_law_591 : decode cL_law 591 = .ok (.invokevirtual 60, 3) := by decide +kernel
theorem dL_law_594 : decode cL_law 594 = .ok (.aload_n 2, 1) := by decide +kernel
theorem dL_law_595 : decode cL_law 595 = .ok (.aload_n 0, 1) := by decide +kernel
theorem dL_law_596 : decode cL_law 596 = .ok (.iload_n 3, 1) := by decide +kernel
theorem dL_law_597 : decode cL_law 597 = .ok (.iconst 1, 1) := by decide +kernel
theorem dL_law_598 : decode cL_law 598 = .ok (.iadd, 1) := by decide +kernel
theorem dL_law_599 : decode cL_law 599 = .ok (.iaload, 1) := by decide +kernel
theorem dL_law_600 : decode cL_law 600 = .ok (.aload_n 0, 1) := by decide +kernel
theorem dL_law_601 : decode cL_law 601 = .ok (.iload_n 3, 1) := by decide +kernel
theorem dL_law_602 : decode cL_law 602 = .ok (.iconst 2, 1) := by decide +kernel
theorem dL_law_603 : decode cL_law 603 = .ok (.iadd, 1) := by decide +kernel
theorem dL_law_604 : decode cL_law 604 = .ok (.iaload, 1) := by decide +kernel
theorem dL_law_605 : decode cL_law 605 = .ok (.aload_n 0, 1) := by decide +kernel
theorem dL_law_606 : decode cL_law 606 = .ok (.iload_n 3, 1) := by decide +kernel
theorem dL_law_607 : decode cL_law 607 = .ok (.iconst 3, 1) := by decide +kernel
theorem dL_law_608 : decode cL_law 608 = .ok (.iadd, 1) := by decide +kernel
theorem dL_law_609 : decode cL_law 609 = .ok (.iaload, 1) := by decide +kernel
theorem dL_law_610 : decode cL_law 610 = .ok (.invokevirtual 63, 3) := by decide +kernel
theorem dL_law_613 : decode cL_law 613 = .ok (.if_icmp .eq 917, 3) := by decide +kernel
theorem dL_law_616 : decode cL_law 616 = .ok (.iconst 0, 1) := by decide +kernel
theorem dL_law_617 : decode cL_law 617 = .ok (.ireturn, 1) := by decide +kernel
theorem dL_law_618 : decode cL_law 618 = .ok (.aload_n 1, 1) := by decide +kernel
theorem dL_law_619 : decode cL_law 619 = .ok (.aload_n 0, 1) := by decide +kernel
theorem dL_law_620 : decode cL_law 620 = .ok (.iload_n 3, 1) := by decide +kernel
theorem dL_law_621 : decode cL_law 621 = .ok (.iconst 1, 1) := by decide +kernel
theorem dL_law_622 : decode cL_law 622 = .ok (.iadd, 1) := by decide +kernel
theorem dL_law_623 : decode cL_law 623 = .ok (.iaload, 1) := by decide +kernel
theorem dL_law_624 : decode cL_law 624 = .ok (.invokevirtual 64, 3) := by decide +kernel
theorem dL_law_627 : decode cL_law 627 = .ok (.aload_n 2, 1) := by decide +kernel
theorem dL_law_628 : decode cL_law 628 = .ok (.aload_n 0, 1) := by decide +kernel
theorem dL_law_629 : decode cL_law 629 = .ok (.iload_n 3, 1) := by decide +kernel
theorem dL_law_630 : decode cL_law 630 = .ok (.iconst 1, 1) := by decide +kernel
theorem dL_law_631 : decode cL_law 631 = .ok (.iadd, 1) := by decide +kernel
theorem dL_law_632 : decode cL_law 632 = .ok (.iaload, 1) := by decide +kernel
theorem dL_law_633 : decode cL_law 633 = .ok (.invokevirtual 67, 3) := by decide +kernel
theorem dL_law_636 : decode cL_law 636 = .ok (.if_icmp .eq 894, 3) := by decide +kernel
theorem dL_law_639 : decode cL_law 639 = .ok (.iconst 0, 1) := by decide +kernel
theorem dL_law_640 : decode cL_law 640 = .ok (.ireturn, 1) := by decide +kernel
theorem dL_law_641 : decode cL_law 641 = .ok (.aload_n 1, 1) := by decide +kernel
theorem dL_law_642 : decode cL_law 642 = .ok (.aload_n 0, 1) := by decide +kernel
theorem dL_law_643 : decode cL_law 643 = .ok (.iload_n 3, 1) := by decide +kernel
theorem dL_law_644 : decode cL_law 644 = .ok (.iconst 1, 1) := by decide +kernel
theorem dL_law_645 : decode cL_law 645 = .ok (.iadd, 1) := by decide +kernel
theorem dL_law_646 : decode cL_law 646 = .ok (.iaload, 1) := by decide +kernel
theorem dL_law_647 : decode cL_law 647 = .ok (.invokevirtual 68, 3) := by decide +kernel
theorem dL_law_650 : decode cL_law 650 = .ok (.aload_n 2, 1) := by decide +kernel
theorem dL_law_651 : decode cL_law 651 = .ok (.aload_n 0, 1) := by decide +kernel
theorem dL_law_652 : decode cL_law 652 = .ok (.iload_n 3, 1) := by decide +kernel
theorem dL_law_653 : decode cL_law 653 = .ok (.iconst 1, 1) := by decide +kernel
theorem dL_law_654 : decode cL_law 654 = .ok (.iadd, 1) := by decide +kernel
theorem dL_law_655 : decode cL_law 655 = .ok (.iaload, 1) := by decide +kernel
theorem dL_law_656 : decode cL_law 656 = .ok (.invokevirtual 71, 3) := by decide +kernel
theorem dL_law_659 : decode cL_law 659 = .ok (.if_icmp .eq 871, 3) := by decide +kernel
theorem dL_law_662 : decode cL_law 662 = .ok (.iconst 0, 1) := by decide +kernel
theorem dL_law_663 : decode cL_law 663 = .ok (.ireturn, 1) := by decide +kernel
theorem dL_law_664 : decode cL_law 664 = .ok (.aload_n 1, 1) := by decide +kernel
theorem dL_law_665 : decode cL_law 665 = .ok (.aload_n 0, 1) := by decide +kernel
theorem dL_law_666 : decode cL_law 666 = .ok (.iload_n 3, 1) := by decide +kernel
theorem dL_law_667 : decode cL_law 667 = .ok (.iconst 1, 1) := by decide +kernel
theorem dL_law_668 : decode cL_law 668 = .ok (.iadd, 1) := by decide +kernel
theorem dL_law_669 : decode cL_law 669 = .ok (.iaload, 1) := by decide +kernel
theorem dL_law_670 : decode cL_law 670 = .ok (.invokevirtual 72, 3) := by decide +kernel
theorem dL_law_673 : decode cL_law 673 = .ok (.aload_n 2, 1) := by decide +kernel
theorem dL_law_674 : decode cL_law 674 = .ok (.aload_n 0, 1) := by decide +kernel
theorem dL_law_675 : decode cL_law 675 = .ok (.iload_n 3, 1) := by decide +kernel
theorem dL_law_676 : decode cL_law 676 = .ok (.iconst 1, 1) := by decide +kernel
theorem dL_law_677 : decode cL_law 677 = .ok (.iadd, 1) := by decide +kernel
theorem dL_law_678 : decode cL_law 678 = .ok (.iaload, 1) := by decide +kernel
theorem dL_law_679 : decode cL_law 679 = .ok (.invokevirtual 75, 3) := by decide +kernel
theorem dL_law_682 : decode cL_law 682 = .ok (.if_icmp .eq 848, 3) := by decide +kernel
theorem dL_law_685 : decode cL_law 685 = .ok (.iconst 0, 1) := by decide +kernel
theorem dL_law_686 : decode cL_law 686 = .ok (.ireturn, 1) := by decide +kernel
theorem dL_law_687 : decode cL_law 687 = .ok (.aload_n 1, 1) := by decide +kernel
theorem dL_law_688 : decode cL_law 688 = .ok (.aload_n 0, 1) := by decide +kernel
theorem dL_law_689 : decode cL_law 689 = .ok (.iload_n 3, 1) := by decide +kernel
theorem dL_law_690 : decode cL_law 690 = .ok (.iconst 1, 1) := by decide +kernel
theorem dL_law_691 : decode cL_law 691 = .ok (.iadd, 1) := by decide +kernel
theorem dL_law_692 : decode cL_law 692 = .ok (.iaload, 1) := by decide +kernel
theorem dL_law_693 : decode cL_law 693 = .ok (.aload_n 0, 1) := by decide +kernel
theorem dL_law_694 : decode cL_law 694 = .ok (.iload_n 3, 1) := by decide +kernel
theorem dL_law_695 : decode cL_law 695 = .ok (.iconst 2, 1) := by decide +kernel
theorem dL_law_696 : decode cL_law 696 = .ok (.iadd, 1) := by decide +kernel
theorem dL_law_697 : decode cL_law 697 = .ok (.iaload, 1) := by decide +kernel
theorem dL_law_698 : decode cL_law 698 = .ok (.invokevirtual 76, 3) := by decide +kernel
theorem dL_law_701 : decode cL_law 701 = .ok (.aload_n 2, 1) := by decide +kernel
theorem dL_law_702 : decode cL_law 702 = .ok (.aload_n 0, 1) := by decide +kernel
theorem dL_law_703 : decode cL_law 703 = .ok (.iload_n 3, 1) := by decide +kernel
theorem dL_law_704 : decode cL_law 704 = .ok (.iconst 1, 1) := by decide +kernel
theorem dL_law_705 : decode cL_law 705 = .ok (.iadd, 1) := by decide +kernel
theorem dL_law_706 : decode cL_law 706 = .ok (.iaload, 1) := by decide +kernel
theorem dL_law_707 : decode cL_law 707 = .ok (.aload_n 0, 1) := by decide +kernel
theorem dL_law_708 : decode cL_law 708 = .ok (.iload_n 3, 1) := by decide +kernel
theorem dL_law_709 : decode cL_law 709 = .ok (.iconst 2, 1) := by decide +kernel
theorem dL_law_710 : decode cL_law 710 = .ok (.iadd, 1) := by decide +kernel
theorem dL_law_711 : decode cL_law 711 = .ok (.iaload, 1) := by decide +kernel
theorem dL_law_712 : decode cL_law 712 = .ok (.invokevirtual 79, 3) := by decide +kernel
theorem dL_law_715 : decode cL_law 715 = .ok (.if_icmp .eq 815, 3) := by decide +kernel
theorem dL_law_718 : decode cL_law 718 = .ok (.iconst 0, 1) := by decide +kernel
theorem dL_law_719 : decode cL_law 719 = .ok (.ireturn, 1) := by decide +kernel
theorem dL_law_720 : decode cL_law 720 = .ok (.aload_n 1, 1) := by decide +kernel
theorem dL_law_721 : decode cL_law 721 = .ok (.aload_n 0, 1) := by decide +kernel
theorem dL_law_722 : decode cL_law 722 = .ok (.iload_n 3, 1) := by decide +kernel
theorem dL_law_723 : decode cL_law 723 = .ok (.iconst 1, 1) := by decide +kernel
theorem dL_law_724 : decode cL_law 724 = .ok (.iadd, 1) := by decide +kernel
theorem dL_law_725 : decode cL_law 725 = .ok (.iaload, 1) := by decide +kernel
theorem dL_law_726 : decode cL_law 726 = .ok (.invokevirtual 80, 3) := by decide +kernel
theorem dL_law_729 : decode cL_law 729 = .ok (.aload_n 2, 1) := by decide +kernel
theorem dL_law_730 : decode cL_law 730 = .ok (.aload_n 0, 1) := by decide +kernel
theorem dL_law_731 : decode cL_law 731 = .ok (.iload_n 3, 1) := by decide +kernel
theorem dL_law_732 : decode cL_law 732 = .ok (.iconst 1, 1) := by decide +kernel
theorem dL_law_733 : decode cL_law 733 = .ok (.iadd, 1) := by decide +kernel
theorem dL_law_734 : decode cL_law 734 = .ok (.iaload, 1) := by decide +kernel
theorem dL_law_735 : decode cL_law 735 = .ok (.invokevirtual 83, 3) := by decide +kernel
theorem dL_law_738 : decode cL_law 738 = .ok (.if_icmp .eq 792, 3) := by decide +kernel
theorem dL_law_741 : decode cL_law 741 = .ok (.iconst 0, 1) := by decide +kernel
theorem dL_law_742 : decode cL_law 742 = .ok (.ireturn, 1) := by decide +kernel
theorem dL_law_743 : decode cL_law 743 = .ok (.aload_n 1, 1) := by decide +kernel
theorem dL_law_744 : decode cL_law 744 = .ok (.aload_n 0, 1) := by decide +kernel
theorem dL_law_745 : decode cL_law 745 = .ok (.iload_n 3, 1) := by decide +kernel
theorem dL_law_746 : decode cL_law 746 = .ok (.iconst 1, 1) := by decide +kernel
theorem dL_law_747 : decode cL_law 747 = .ok (.iadd, 1) := by decide +kernel
theorem dL_law_748 : decode cL_law 748 = .ok (.iaload, 1) := by decide +kernel
theorem dL_law_749 : decode cL_law 749 = .ok (.invokevirtual 84, 3) := by decide +kernel
theorem dL_law_752 : decode cL_law 752 = .ok (.aload_n 2, 1) := by decide +kernel
theorem dL_law_753 : decode cL_law 753 = .ok (.aload_n 0, 1) := by decide +kernel
theorem dL_law_754 : decode cL_law 754 = .ok (.iload_n 3, 1) := by decide +kernel
theorem dL_law_755 : decode cL_law 755 = .ok (.iconst 1, 1) := by decide +kernel
theorem dL_law_756 : decode cL_law 756 = .ok (.iadd, 1) := by decide +kernel
theorem dL_law_757 : decode cL_law 757 = .ok (.iaload, 1) := by decide +kernel
theorem dL_law_758 : decode cL_law 758 = .ok (.invokevirtual 87, 3) := by decide +kernel
theorem dL_law_761 : decode cL_law 761 = .ok (.if_icmp .eq 769, 3) := by decide +kernel
theorem dL_law_764 : decode cL_law 764 = .ok (.iconst 0, 1) := by decide +kernel
theorem dL_law_765 : decode cL_law 765 = .ok (.ireturn, 1) := by decide +kernel
theorem dL_law_766 : decode cL_law 766 = .ok (.aload_n 1, 1) := by decide +kernel
theorem dL_law_767 : decode cL_law 767 = .ok (.aload_n 0, 1) := by decide +kernel
theorem dL_law_768 : decode cL_law 768 = .ok (.iload_n 3, 1) := by decide +kernel
theorem dL_law_769 : decode cL_law 769 = .ok (.iconst 1, 1) := by decide +kernel
theorem dL_law_770 : decode cL_law 770 = .ok (.iadd, 1) := by decide +kernel
theorem dL_law_771 : decode cL_law 771 = .ok (.iaload, 1) := by decide +kernel
theorem dL_law_772 : decode cL_law 772 = .ok (.aload_n 0, 1) := by decide +kernel
theorem dL_law_773 : decode cL_law 773 = .ok (.iload_n 3, 1) := by decide +kernel
theorem dL_law_774 : decode cL_law 774 = .ok (.iconst 2, 1) := by decide +kernel
theorem dL_law_775 : decode cL_law 775 = .ok (.iadd, 1) := by decide +kernel
theorem dL_law_776 : decode cL_law 776 = .ok (.iaload, 1) := by decide +kernel
theorem dL_law_777 : decode cL_law 777 = .ok (.invokevirtual 88, 3) := by decide +kernel
theorem dL_law_780 : decode cL_law 780 = .ok (.aload_n 2, 1) := by decide +kernel
theorem dL_law_781 : decode cL_law 781 = .ok (.aload_n 0, 1) := by decide +kernel
theorem dL_law_782 : decode cL_law 782 = .ok (.iload_n 3, 1) := by decide +kernel
theorem dL_law_783 : decode cL_law 783 = .ok (.iconst 1, 1) := by decide +kernel
theorem dL_law_784 : decode cL_law 784 = .ok (.iadd, 1) := by decide +kernel
theorem dL_law_785 : decode cL_law 785 = .ok (.iaload, 1) := by decide +kernel
theorem dL_law_786 : decode cL_law 786 = .ok (.aload_n 0, 1) := by decide +kernel
theorem dL_law_787 : decode cL_law 787 = .ok (.iload_n 3, 1) := by decide +kernel
theorem dL_law_788 : decode cL_law 788 = .ok (.iconst 2, 1) := by decide +kernel
theorem dL_law_789 : decode cL_law 789 = .ok (.iadd, 1) := by decide +kernel
theorem dL_law_790 : decode cL_law 790 = .ok (.iaload, 1) := by decide +kernel
theorem dL_law_791 : decode cL_law 791 = .ok (.invokevirtual 91, 3) := by decide +kernel
theorem dL_law_794 : decode cL_law 794 = .ok (.if_icmp .eq 736, 3) := by decide +kernel
theorem dL_law_797 : decode cL_law 797 = .ok (.iconst 0, 1) := by decide +kernel
theorem dL_law_798 : decode cL_law 798 = .ok (.ireturn, 1) := by decide +kernel
theorem dL_law_799 : decode cL_law 799 = .ok (.aload_n 1, 1) := by decide +kernel
theorem dL_law_800 : decode cL_law 800 = .ok (.aload_n 0, 1) := by decide +kernel
theorem dL_law_801 : decode cL_law 801 = .ok (.iload_n 3, 1) := by decide +kernel
theorem dL_law_802 : decode cL_law 802 = .ok (.iconst 1, 1) := by decide +kernel
theorem dL_law_803 : decode cL_law 803 = .ok (.iadd, 1) := by decide +kernel
theorem dL_law_804 : decode cL_law 804 = .ok (.iaload, 1) := by decide +kernel
theorem dL_law_805 : decode cL_law 805 = .ok (.aload_n 0, 1) := by decide +kernel
theorem dL_law_806 : decode cL_law 806 = .ok (.iload_n 3, 1) := by decide +kernel
theorem dL_law_807 : decode cL_law 807 = .ok (.iconst 2, 1) := by decide +kernel
theorem dL_law_808 : decode cL_law 808 = .ok (.iadd, 1) := by decide +kernel
theorem dL_law_809 : decode cL_law 809 = .ok (.iaload, 1) := by decide +kernel
theorem dL_law_810 : decode cL_law 810 = .ok (.invokevirtual 92, 3) := by decide +kernel
theorem dL_law_813 : decode cL_law 813 = .ok (.aload_n 2, 1) := by decide +kernel
theorem dL_law_814 : decode cL_law 814 = .ok (.aload_n 0, 1) := by decide +kernel
theorem dL_law_815 : decode cL_law 815 = .ok (.iload_n 3, 1) := by decide +kernel
theorem dL_law_816 : decode cL_law 816 = .ok (.iconst 1, 1) := by decide +kernel
theorem dL_law_817 : decode cL_law 817 = .ok (.iadd, 1) := by decide +kernel
theorem dL_law_818 : decode cL_law 818 = .ok (.iaload, 1) := by decide +kernel
theorem dL_law_819 : decode cL_law 819 = .ok (.aload_n 0, 1) := by decide +kernel
theorem dL_law_820 : decode cL_law 820 = .ok (.iload_n 3, 1) := by decide +kernel
theorem dL_law_821 : decode cL_law 821 = .ok (.iconst 2, 1) := by decide +kernel
theorem dL_law_822 : decode cL_law 822 = .ok (.iadd, 1) := by decide +kernel
theorem dL_law_823 : decode cL_law 823 = .ok (.iaload, 1) := by decide +kernel
theorem dL_law_824 : decode cL_law 824 = .ok (.invokevirtual 95, 3) := by decide +kernel
theorem dL_law_827 : decode cL_law 827 = .ok (.if_icmp .eq 703, 3) := by decide +kernel
theorem dL_law_830 : decode cL_law 830 = .ok (.iconst 0, 1) := by decide +kernel
theorem dL_law_831 : decode cL_law 831 = .ok (.ireturn, 1) := by decide +kernel
theorem dL_law_832 : decode cL_law 832 = .ok (.aload_n 1, 1) := by decide +kernel
theorem dL_law_833 : decode cL_law 833 = .ok (.aload_n 0, 1) := by decide +kernel
theorem dL_law_834 : decode cL_law 834 = .ok (.iload_n 3, 1) := by decide +kernel
theorem dL_law_835 : decode cL_law 835 = .ok (.iconst 1, 1) := by decide +kernel
theorem dL_law_836 : decode cL_law 836 = .ok (.iadd, 1) := by decide +kernel
theorem dL_law_837 : decode cL_law 837 = .ok (.iaload, 1) := by decide +kernel
theorem dL_law_838 : decode cL_law 838 = .ok (.invokevirtual 96, 3) := by decide +kernel
theorem dL_law_841 : decode cL_law 841 = .ok (.aload_n 2, 1) := by decide +kernel
theorem dL_law_842 : decode cL_law 842 = .ok (.aload_n 0, 1) := by decide +kernel
theorem dL_law_843 : decode cL_law 843 = .ok (.iload_n 3, 1) := by decide +kernel
theorem dL_law_844 : decode cL_law 844 = .ok (.iconst 1, 1) := by decide +kernel
theorem dL_law_845 : decode cL_law 845 = .ok (.iadd, 1) := by decide +kernel
theorem dL_law_846 : decode cL_law 846 = .ok (.iaload, 1) := by decide +kernel
theorem dL_law_847 : decode cL_law 847 = .ok (.invokevirtual 99, 3) := by decide +kernel
theorem dL_law_850 : decode cL_law 850 = .ok (.if_icmp .eq 680, 3) := by decide +kernel
theorem dL_law_853 : decode cL_law 853 = .ok (.iconst 0, 1) := by decide +kernel
theorem dL_law_854 : decode cL_law 854 = .ok (.ireturn, 1) := by decide +kernel
theorem dL_law_855 : decode cL_law 855 = .ok (.aload_n 1, 1) := by decide +kernel
theorem dL_law_856 : decode cL_law 856 = .ok (.aload_n 0, 1) := by decide +kernel
theorem dL_law_857 : decode cL_law 857 = .ok (.iload_n 3, 1) := by decide +kernel
theorem dL_law_858 : decode cL_law 858 = .ok (.iconst 1, 1) := by decide +kernel
theorem dL_law_859 : decode cL_law 859 = .ok (.iadd, 1) := by decide +kernel
theorem dL_law_860 : decode cL_law 860 = .ok (.iaload, 1) := by decide +kernel
theorem dL_law_861 : decode cL_law 861 = .ok (.invokevirtual 100, 3) := by decide +kernel
theorem dL_law_864 : decode cL_law 864 = .ok (.aload_n 2, 1) := by decide +kernel
theorem dL_law_865 : decode cL_law 865 = .ok (.aload_n 0, 1) := by decide +kernel
theorem dL_law_866 : decode cL_law 866 = .ok (.iload_n 3, 1) := by decide +kernel
theorem dL_law_867 : decode cL_law 867 = .ok (.iconst 1, 1) := by decide +kernel
theorem dL_law_868 : decode cL_law 868 = .ok (.iadd, 1) := by decide +kernel
theorem dL_law_869 : decode cL_law 869 = .ok (.iaload, 1) := by decide +kernel
theorem dL_law_870 : decode cL_law 870 = .ok (.invokevirtual 103, 3) := by decide +kernel
theorem dL_law_873 : decode cL_law 873 = .ok (.if_icmp .eq 657, 3) := by decide +kernel
theorem dL_law_876 : decode cL_law 876 = .ok (.iconst 0, 1) := by decide +kernel
theorem dL_law_877 : decode cL_law 877 = .ok (.ireturn, 1) := by decide +kernel
theorem dL_law_878 : decode cL_law 878 = .ok (.aload_n 1, 1) := by decide +kernel
theorem dL_law_879 : decode cL_law 879 = .ok (.aload_n 0, 1) := by decide +kernel
theorem dL_law_880 : decode cL_law 880 = .ok (.iload_n 3, 1) := by decide +kernel
theorem dL_law_881 : decode cL_law 881 = .ok (.iconst 1, 1) := by decide +kernel
theorem dL_law_882 : decode cL_law 882 = .ok (.iadd, 1) := by decide +kernel
theorem dL_law_883 : decode cL_law 883 = .ok (.iaload, 1) := by decide +kernel
theorem dL_law_884 : decode cL_law 884 = .ok (.aload_n 0, 1) := by decide +kernel
theorem dL_law_885 : decode cL_law 885 = .ok (.iload_n 3, 1) := by decide +kernel
theorem dL_law_886 : decode cL_law 886 = .ok (.iconst 2, 1) := by decide +kernel
theorem dL_law_887 : decode cL_law 887 = .ok (.iadd, 1) := by decide +kernel
theorem dL_law_888 : decode cL_law 888 = .ok (.iaload, 1) := by decide +kernel
theorem dL_law_889 : decode cL_law 889 = .ok (.invokevirtual 104, 3) := by decide +kernel
theorem dL_law_892 : decode cL_law 892 = .ok (.aload_n 2, 1) := by decide +kernel
theorem dL_law_893 : decode cL_law 893 = .ok (.aload_n 0, 1) := by decide +kernel
theorem dL_law_894 : decode cL_law 894 = .ok (.iload_n 3, 1) := by decide +kernel
theorem dL_law_895 : decode cL_law 895 = .ok (.iconst 1, 1) := by decide +kernel
theorem dL_law_896 : decode cL_law 896 = .ok (.iadd, 1) := by decide +kernel
theorem dL_law_897 : decode cL_law 897 = .ok (.iaload, 1) := by decide +kernel
theorem dL_law_898 : decode cL_law 898 = .ok (.aload_n 0, 1) := by decide +kernel
theorem dL_law_899 : decode cL_law 899 = .ok (.iload_n 3, 1) := by decide +kernel
theorem dL_law_900 : decode cL_law 900 = .ok (.iconst 2, 1) := by decide +kernel
theorem dL_law_901 : decode cL_law 901 = .ok (.iadd, 1) := by decide +kernel
theorem dL_law_902 : decode cL_law 902 = .ok (.iaload, 1) := by decide +kernel
theorem dL_law_903 : decode cL_law 903 = .ok (.invokevirtual 107, 3) := by decide +kernel
theorem dL_law_906 : decode cL_law 906 = .ok (.if_icmp .eq 624, 3) := by decide +kernel
theorem dL_law_909 : decode cL_law 909 = .ok (.iconst 0, 1) := by decide +kernel
theorem dL_law_910 : decode cL_law 910 = .ok (.ireturn, 1) := by decide +kernel
theorem dL_law_911 : decode cL_law 911 = .ok (.aload_n 1, 1) := by decide +kernel
theorem dL_law_912 : decode cL_law 912 = .ok (.aload_n 0, 1) := by decide +kernel
theorem dL_law_913 : decode cL_law 913 = .ok (.iload_n 3, 1) := by decide +kernel
theorem dL_law_914 : decode cL_law 914 = .ok (.iconst 1, 1) := by decide +kernel
theorem dL_law_915 : decode cL_law 915 = .ok (.iadd, 1) := by decide +kernel
theorem dL_law_916 : decode cL_law 916 = .ok (.iaload, 1) := by decide +kernel
theorem dL_law_917 : decode cL_law 917 = .ok (.invokevirtual 108, 3) := by decide +kernel
theorem dL_law_920 : decode cL_law 920 = .ok (.aload_n 2, 1) := by decide +kernel
theorem dL_law_921 : decode cL_law 921 = .ok (.aload_n 0, 1) := by decide +kernel
theorem dL_law_922 : decode cL_law 922 = .ok (.iload_n 3, 1) := by decide +kernel
theorem dL_law_923 : decode cL_law 923 = .ok (.iconst 1, 1) := by decide +kernel
theorem dL_law_924 : decode cL_law 924 = .ok (.iadd, 1) := by decide +kernel
theorem dL_law_925 : decode cL_law 925 = .ok (.iaload, 1) := by decide +kernel
theorem dL_law_926 : decode cL_law 926 = .ok (.invokevirtual 111, 3) := by decide +kernel
theorem dL_law_929 : decode cL_law 929 = .ok (.if_icmp .eq 601, 3) := by decide +kernel
theorem dL_law_932 : decode cL_law 932 = .ok (.iconst 0, 1) := by decide +kernel
theorem dL_law_933 : decode cL_law 933 = .ok (.ireturn, 1) := by decide +kernel
theorem dL_law_934 : decode cL_law 934 = .ok (.aload_n 1, 1) := by decide +kernel
theorem dL_law_935 : decode cL_law 935 = .ok (.aload_n 0, 1) := by decide +kernel
theorem dL_law_936 : decode cL_law 936 = .ok (.iload_n 3, 1) := by decide +kernel
theorem dL_law_937 : decode cL_law 937 = .ok (.iconst 1, 1) := by decide +kernel
theorem dL_law_938 : decode cL_law 938 = .ok (.iadd, 1) := by decide +kernel
theorem dL_law_939 : decode cL_law 939 = .ok (.iaload, 1) := by decide +kernel
theorem dL_law_940 : decode cL_law 940 = .ok (.aload_n 0, 1) := by decide +kernel
theorem dL_law_941 : decode cL_law 941 = .ok (.iload_n 3, 1) := by decide +kernel
theorem dL_law_942 : decode cL_law 942 = .ok (.iconst 2, 1) := by decide +kernel
theorem dL_law_943 : decode cL_law 943 = .ok (.iadd, 1) := by decide +kernel
theorem dL_law_944 : decode cL_law 944 = .ok (.iaload, 1) := by decide +kernel
theorem dL_law_945 : decode cL_law 945 = .ok (.invokevirtual 112, 3) := by decide +kernel
theorem dL_law_948 : decode cL_law 948 = .ok (.aload_n 2, 1) := by decide +kernel
theorem dL_law_949 : decode cL_law 949 = .ok (.aload_n 0, 1) := by decide +kernel
theorem dL_law_950 : decode cL_law 950 = .ok (.iload_n 3, 1) := by decide +kernel
theorem dL_law_951 : decode cL_law 951 = .ok (.iconst 1, 1) := by decide +kernel
theorem dL_law_952 : decode cL_law 952 = .ok (.iadd, 1) := by decide +kernel
theorem dL_law_953 : decode cL_law 953 = .ok (.iaload, 1) := by decide +kernel
theorem dL_law_954 : decode cL_law 954 = .ok (.aload_n 0, 1) := by decide +kernel
theorem dL_law_955 : decode cL_law 955 = .ok (.iload_n 3, 1) := by decide +kernel
theorem dL_law_956 : decode cL_law 956 = .ok (.iconst 2, 1) := by decide +kernel
theorem dL_law_957 : decode cL_law 957 = .ok (.iadd, 1) := by decide +kernel
theorem dL_law_958 : decode cL_law 958 = .ok (.iaload, 1) := by decide +kernel
theorem dL_law_959 : decode cL_law 959 = .ok (.invokevirtual 115, 3) := by decide +kernel
theorem dL_law_962 : decode cL_law 962 = .ok (.if_icmp .eq 568, 3) := by decide +kernel
theorem dL_law_965 : decode cL_law 965 = .ok (.iconst 0, 1) := by decide +kernel
theorem dL_law_966 : decode cL_law 966 = .ok (.ireturn, 1) := by decide +kernel
theorem dL_law_967 : decode cL_law 967 = .ok (.aload_n 1, 1) := by decide +kernel
theorem dL_law_968 : decode cL_law 968 = .ok (.aload_n 0, 1) := by decide +kernel
theorem dL_law_969 : decode cL_law 969 = .ok (.iload_n 3, 1) := by decide +kernel
theorem dL_law_970 : decode cL_law 970 = .ok (.iconst 1, 1) := by decide +kernel
theorem dL_law_971 : decode cL_law 971 = .ok (.iadd, 1) := by decide +kernel
theorem dL_law_972 : decode cL_law 972 = .ok (.iaload, 1) := by decide +kernel
theorem dL_law_973 : decode cL_law 973 = .ok (.aload_n 0, 1) := by decide +kernel
theorem dL_law_974 : decode cL_law 974 = .ok (.iload_n 3, 1) := by decide +kernel
theorem dL_law_975 : decode cL_law 975 = .ok (.iconst 2, 1) := by decide +kernel
theorem dL_law_976 : decode cL_law 976 = .ok (.iadd, 1) := by decide +kernel
theorem dL_law_977 : decode cL_law 977 = .ok (.iaload, 1) := by decide +kernel
theorem dL_law_978 : decode cL_law 978 = .ok (.invokevirtual 116, 3) := by decide +kernel
theorem dL_law_981 : decode cL_law 981 = .ok (.aload_n 2, 1) := by decide +kernel
theorem dL_law_982 : decode cL_law 982 = .ok (.aload_n 0, 1) := by decide +kernel
theorem dL_law_983 : decode cL_law 983 = .ok (.iload_n 3, 1) := by decide +kernel
theorem dL_law_984 : decode cL_law 984 = .ok (.iconst 1, 1) := by decide +kernel
theorem dL_law_985 : decode cL_law 985 = .ok (.iadd, 1) := by decide +kernel
theorem dL_law_986 : decode cL_law 986 = .ok (.iaload, 1) := by decide +kernel
theorem dL_law_987 : decode cL_law 987 = .ok (.aload_n 0, 1) := by decide +kernel
theorem dL_law_988 : decode cL_law 988 = .ok (.iload_n 3, 1) := by decide +kernel
theorem dL_law_989 : decode cL_law 989 = .ok (.iconst 2, 1) := by decide +kernel
theorem dL_law_990 : decode cL_law 990 = .ok (.iadd, 1) := by decide +kernel
theorem dL_law_991 : decode cL_law 991 = .ok (.iaload, 1) := by decide +kernel
theorem dL_law_992 : decode cL_law 992 = .ok (.invokevirtual 119, 3) := by decide +kernel
theorem dL_law_995 : decode cL_law 995 = .ok (.if_icmp .eq 535, 3) := by decide +kernel
theorem dL_law_998 : decode cL_law 998 = .ok (.iconst 0, 1) := by decide +kernel
theorem dL_law_999 : decode cL_law 999 = .ok (.ireturn, 1) := by decide +kernel
theorem dL_law_1000 : decode cL_law 1000 = .ok (.aload_n 1, 1) := by decide +kernel
theorem dL_law_1001 : decode cL_law 1001 = .ok (.aload_n 0, 1) := by decide +kernel
theorem dL_law_1002 : decode cL_law 1002 = .ok (.iload_n 3, 1) := by decide +kernel
theorem dL_law_1003 : decode cL_law 1003 = .ok (.iconst 1, 1) := by decide +kernel
theorem dL_law_1004 : decode cL_law 1004 = .ok (.iadd, 1) := by decide +kernel
theorem dL_law_1005 : decode cL_law 1005 = .ok (.iaload, 1) := by decide +kernel
theorem dL_law_1006 : decode cL_law 1006 = .ok (.aload_n 0, 1) := by decide +kernel
theorem dL_law_1007 : decode cL_law 1007 = .ok (.iload_n 3, 1) := by decide +kernel
theorem dL_law_1008 : decode cL_law 1008 = .ok (.iconst 2, 1) := by decide +kernel
theorem dL_law_1009 : decode cL_law 1009 = .ok (.iadd, 1) := by decide +kernel
theorem dL_law_1010 : decode cL_law 1010 = .ok (.iaload, 1) := by decide +kernel
theorem dL_law_1011 : decode cL_law 1011 = .ok (.invokevirtual 120, 3) := by decide +kernel
theorem dL_law_1014 : decode cL_law 1014 = .ok (.aload_n 2, 1) := by decide +kernel
theorem dL_law_1015 : decode cL_law 1015 = .ok (.aload_n 0, 1) := by decide +kernel
theorem dL_law_1016 : decode cL_law 1016 = .ok (.iload_n 3, 1) := by decide +kernel
theorem dL_law_1017 : decode cL_law 1017 = .ok (.iconst 1, 1) := by decide +kernel
theorem dL_law_1018 : decode cL_law 1018 = .ok (.iadd, 1) := by decide +kernel
theorem dL_law_1019 : decode cL_law 1019 = .ok (.iaload, 1) := by decide +kernel
theorem dL_law_1020 : decode cL_law 1020 = .ok (.aload_n 0, 1) := by decide +kernel
theorem dL_law_1021 : decode cL_law 1021 = .ok (.iload_n 3, 1) := by decide +kernel
theorem dL_law_1022 : decode cL_law 1022 = .ok (.iconst 2, 1) := by decide +kernel
theorem dL_law_1023 : decode cL_law 1023 = .ok (.iadd, 1) := by decide +kernel
theorem dL_law_1024 : decode cL_law 1024 = .ok (.iaload, 1) := by decide +kernel
theorem dL_law_1025 : decode cL_law 1025 = .ok (.invokevirtual 123, 3) := by decide +kernel
theorem dL_law_1028 : decode cL_law 1028 = .ok (.if_icmp .eq 502, 3) := by decide +kernel
theorem dL_law_1031 : decode cL_law 1031 = .ok (.iconst 0, 1) := by decide +kernel
theorem dL_law_1032 : decode cL_law 1032 = .ok (.ireturn, 1) := by decide +kernel
theorem dL_law_1033 : decode cL_law 1033 = .ok (.aload_n 1, 1) := by decide +kernel
theorem dL_law_1034 : decode cL_law 1034 = .ok (.aload_n 0, 1) := by decide +kernel
theorem dL_law_1035 : decode cL_law 1035 = .ok (.iload_n 3, 1) := by decide +kernel
theorem dL_law_1036 : decode cL_law 1036 = .ok (.iconst 1, 1) := by decide +kernel
theorem dL_law_1037 : decode cL_law 1037 = .ok (.iadd, 1) := by decide +kernel
theorem dL_law_1038 : decode cL_law 1038 = .ok (.iaload, 1) := by decide +kernel
theorem dL_law_1039 : decode cL_law 1039 = .ok (.invokevirtual 124, 3) := by decide +kernel
theorem dL_law_1042 : decode cL_law 1042 = .ok (.aload_n 2, 1) := by decide +kernel
theorem dL_law_1043 : decode cL_law 1043 = .ok (.aload_n 0, 1) := by decide +kernel
theorem dL_law_1044 : decode cL_law 1044 = .ok (.iload_n 3, 1) := by decide +kernel
theorem dL_law_1045 : decode cL_law 1045 = .ok (.iconst 1, 1) := by decide +kernel
theorem dL_law_1046 : decode cL_law 1046 = .ok (.iadd, 1) := by decide +kernel
theorem dL_law_1047 : decode cL_law 1047 = .ok (.iaload, 1) := by decide +kernel
theorem dL_law_1048 : decode cL_law 1048 = .ok (.invokevirtual 127, 3) := by decide +kernel
theorem dL_law_1051 : decode cL_law 1051 = .ok (.if_icmp .eq 479, 3) := by decide +kernel
theorem dL_law_1054 : decode cL_law 1054 = .ok (.iconst 0, 1) := by decide +kernel
theorem dL_law_1055 : decode cL_law 1055 = .ok (.ireturn, 1) := by decide +kernel
theorem dL_law_1056 : decode cL_law 1056 = .ok (.aload_n 1, 1) := by decide +kernel
theorem dL_law_1057 : decode cL_law 1057 = .ok (.aload_n 0, 1) := by decide +kernel
theorem dL_law_1058 : decode cL_law 1058 = .ok (.iload_n 3, 1) := by decide +kernel
theorem dL_law_1059 : decode cL_law 1059 = .ok (.iconst 1, 1) := by decide +kernel
theorem dL_law_1060 : decode cL_law 1060 = .ok (.iadd, 1) := by decide +kernel
theorem dL_law_1061 : decode cL_law 1061 = .ok (.iaload, 1) := by decide +kernel
theorem dL_law_1062 : decode cL_law 1062 = .ok (.invokevirtual 128, 3) := by decide +kernel
theorem dL_law_1065 : decode cL_law 1065 = .ok (.aload_n 2, 1) := by decide +kernel
theorem dL_law_1066 : decode cL_law 1066 = .ok (.aload_n 0, 1) := by decide +kernel
theorem dL_law_1067 : decode cL_law 1067 = .ok (.iload_n 3, 1) := by decide +kernel
theorem dL_law_1068 : decode cL_law 1068 = .ok (.iconst 1, 1) := by decide +kernel
theorem dL_law_1069 : decode cL_law 1069 = .ok (.iadd, 1) := by decide +kernel
theorem dL_law_1070 : decode cL_law 1070 = .ok (.iaload, 1) := by decide +kernel
theorem dL_law_1071 : decode cL_law 1071 = .ok (.invokevirtual 131, 3) := by decide +kernel
theorem dL_law_1074 : decode cL_law 1074 = .ok (.if_icmp .eq 456, 3) := by decide +kernel
theorem dL_law_1077 : decode cL_law 1077 = .ok (.iconst 0, 1) := by decide +kernel
theorem dL_law_1078 : decode cL_law 1078 = .ok (.ireturn, 1) := by decide +kernel
theorem dL_law_1079 : decode cL_law 1079 = .ok (.aload_n 1, 1) := by decide +kernel
theorem dL_law_1080 : decode cL_law 1080 = .ok (.aload_n 0, 1) := by decide +kernel
theorem dL_law_1081 : decode cL_law 1081 = .ok (.iload_n 3, 1) := by decide +kernel
theorem dL_law_1082 : decode cL_law 1082 = .ok (.iconst 1, 1) := by decide +kernel
theorem dL_law_1083 : decode cL_law 1083 = .ok (.iadd, 1) := by decide +kernel
theorem dL_law_1084 : decode cL_law 1084 = .ok (.iaload, 1) := by decide +kernel
theorem dL_law_1085 : decode cL_law 1085 = .ok (.invokevirtual 132, 3) := by decide +kernel
theorem dL_law_1088 : decode cL_law 1088 = .ok (.aload_n 2, 1) := by decide +kernel
theorem dL_law_1089 : decode cL_law 1089 = .ok (.aload_n 0, 1) := by decide +kernel
theorem dL_law_1090 : decode cL_law 1090 = .ok (.iload_n 3, 1) := by decide +kernel
theorem dL_law_1091 : decode cL_law 1091 = .ok (.iconst 1, 1) := by decide +kernel
theorem dL_law_1092 : decode cL_law 1092 = .ok (.iadd, 1) := by decide +kernel
theorem dL_law_1093 : decode cL_law 1093 = .ok (.iaload, 1) := by decide +kernel
theorem dL_law_1094 : decode cL_law 1094 = .ok (.invokevirtual 135, 3) := by decide +kernel
theorem dL_law_1097 : decode cL_law 1097 = .ok (.if_icmp .eq 433, 3) := by decide +kernel
theorem dL_law_1100 : decode cL_law 1100 = .ok (.iconst 0, 1) := by decide +kernel
theorem dL_law_1101 : decode cL_law 1101 = .ok (.ireturn, 1) := by decide +kernel
theorem dL_law_1102 : decode cL_law 1102 = .ok (.aload_n 1, 1) := by decide +kernel
theorem dL_law_1103 : decode cL_law 1103 = .ok (.aload_n 0, 1) := by decide +kernel
theorem dL_law_1104 : decode cL_law 1104 = .ok (.iload_n 3, 1) := by decide +kernel
theorem dL_law_1105 : decode cL_law 1105 = .ok (.iconst 1, 1) := by decide +kernel
theorem dL_law_1106 : decode cL_law 1106 = .ok (.iadd, 1) := by decide +kernel
theorem dL_law_1107 : decode cL_law 1107 = .ok (.iaload, 1) := by decide +kernel
theorem dL_law_1108 : decode cL_law 1108 = .ok (.invokevirtual 136, 3) := by decide +kernel
theorem dL_law_1111 : decode cL_law 1111 = .ok (.aload_n 2, 1) := by decide +kernel
theorem dL_law_1112 : decode cL_law 1112 = .ok (.aload_n 0, 1) := by decide +kernel
theorem dL_law_1113 : decode cL_law 1113 = .ok (.iload_n 3, 1) := by decide +kernel
theorem dL_law_1114 : decode cL_law 1114 = .ok (.iconst 1, 1) := by decide +kernel
theorem dL_law_1115 : decode cL_law 1115 = .ok (.iadd, 1) := by decide +kernel
theorem dL_law_1116 : decode cL_law 1116 = .ok (.iaload, 1) := by decide +kernel
theorem dL_law_1117 : decode cL_law 1117 = .ok (.invokevirtual 139, 3) := by decide +kernel
theorem dL_law_1120 : decode cL_law 1120 = .ok (.if_icmp .eq 410, 3) := by decide +kernel
theorem dL_law_1123 : decode cL_law 1123 = .ok (.iconst 0, 1) := by decide +kernel
theorem dL_law_1124 : decode cL_law 1124 = .ok (.ireturn, 1) := by decide +kernel
theorem dL_law_1125 : decode cL_law 1125 = .ok (.aload_n 1, 1) := by decide +kernel
theorem dL_law_1126 : decode cL_law 1126 = .ok (.aload_n 0, 1) := by decide +kernel
theorem dL_law_1127 : decode cL_law 1127 = .ok (.iload_n 3, 1) := by decide +kernel
theorem dL_law_1128 : decode cL_law 1128 = .ok (.iconst 1, 1) := by decide +kernel
theorem dL_law_1129 : decode cL_law 1129 = .ok (.iadd, 1) := by decide +kernel
theorem dL_law_1130 : decode cL_law 1130 = .ok (.iaload, 1) := by decide +kernel
theorem dL_law_1131 : decode cL_law 1131 = .ok (.aload_n 0, 1) := by decide +kernel
theorem dL_law_1132 : decode cL_law 1132 = .ok (.iload_n 3, 1) := by decide +kernel
theorem dL_law_1133 : decode cL_law 1133 = .ok (.iconst 2, 1) := by decide +kernel
theorem dL_law_1134 : decode cL_law 1134 = .ok (.iadd, 1) := by decide +kernel
theorem dL_law_1135 : decode cL_law 1135 = .ok (.iaload, 1) := by decide +kernel
theorem dL_law_1136 : decode cL_law 1136 = .ok (.invokevirtual 140, 3) := by decide +kernel
theorem dL_law_1139 : decode cL_law 1139 = .ok (.aload_n 2, 1) := by decide +kernel
theorem dL_law_1140 : decode cL_law 1140 = .ok (.aload_n 0, 1) := by decide +kernel
theorem dL_law_1141 : decode cL_law 1141 = .ok (.iload_n 3, 1) := by decide +kernel
theorem dL_law_1142 : decode cL_law 1142 = .ok (.iconst 1, 1) := by decide +kernel
theorem dL_law_1143 : decode cL_law 1143 = .ok (.iadd, 1) := by decide +kernel
theorem dL_law_1144 : decode cL_law 1144 = .ok (.iaload, 1) := by decide +kernel
theorem dL_law_1145 : decode cL_law 1145 = .ok (.aload_n 0, 1) := by decide +kernel
theorem dL_law_1146 : decode cL_law 1146 = .ok (.iload_n 3, 1) := by decide +kernel
theorem dL_law_1147 : decode cL_law 1147 = .ok (.iconst 2, 1) := by decide +kernel
theorem dL_law_1148 : decode cL_law 1148 = .ok (.iadd, 1) := by decide +kernel
theorem dL_law_1149 : decode cL_law 1149 = .ok (.iaload, 1) := by decide +kernel
theorem dL_law_1150 : decode cL_law 1150 = .ok (.invokevirtual 143, 3) := by decide +kernel
theorem dL_law_1153 : decode cL_law 1153 = .ok (.if_icmp .eq 377, 3) := by decide +kernel
theorem dL_law_1156 : decode cL_law 1156 = .ok (.iconst 0, 1) := by decide +kernel
theorem dL_law_1157 : decode cL_law 1157 = .ok (.ireturn, 1) := by decide +kernel
theorem dL_law_1158 : decode cL_law 1158 = .ok (.aload_n 1, 1) := by decide +kernel
theorem dL_law_1159 : decode cL_law 1159 = .ok (.invokevirtual 144, 3) := by decide +kernel
theorem dL_law_1162 : decode cL_law 1162 = .ok (.aload_n 2, 1) := by decide +kernel
theorem dL_law_1163 : decode cL_law 1163 = .ok (.invokevirtual 148, 3) := by decide +kernel
theorem dL_law_1166 : decode cL_law 1166 = .ok (.if_icmp .eq 364, 3) := by decide +kernel
theorem dL_law_1169 : decode cL_law 1169 = .ok (.iconst 0, 1) := by decide +kernel
theorem dL_law_1170 : decode cL_law 1170 = .ok (.ireturn, 1) := by decide +kernel
theorem dL_law_1171 : decode cL_law 1171 = .ok (.aload_n 1, 1) := by decide +kernel
theorem dL_law_1172 : decode cL_law 1172 = .ok (.invokevirtual 149, 3) := by decide +kernel
theorem dL_law_1175 : decode cL_law 1175 = .ok (.aload_n 2, 1) := by decide +kernel
theorem dL_law_1176 : decode cL_law 1176 = .ok (.invokevirtual 152, 3) := by decide +kernel
theorem dL_law_1179 : decode cL_law 1179 = .ok (.if_icmp .eq 351, 3) := by decide +kernel
theorem dL_law_1182 : decode cL_law 1182 = .ok (.iconst 0, 1) := by decide +kernel
theorem dL_law_1183 : decode cL_law 1183 = .ok (.ireturn, 1) := by decide +kernel
theorem dL_law_1184 : decode cL_law 1184 = .ok (.aload_n 1, 1) := by decide +kernel
theorem dL_law_1185 : decode cL_law 1185 = .ok (.aload_n 0, 1) := by decide +kernel
theorem dL_law_1186 : decode cL_law 1186 = .ok (.iload_n 3, 1) := by decide +kernel
theorem dL_law_1187 : decode cL_law 1187 = .ok (.iconst 1, 1) := by decide +kernel
theorem dL_law_1188 : decode cL_law 1188 = .ok (.iadd, 1) := by decide +kernel
theorem dL_law_1189 : decode cL_law 1189 = .ok (.iaload, 1) := by decide +kernel
theorem dL_law_1190 : decode cL_law 1190 = .ok (.aload_n 0, 1) := by decide +kernel
theorem dL_law_1191 : decode cL_law 1191 = .ok (.iload_n 3, 1) := by decide +kernel
theorem dL_law_1192 : decode cL_law 1192 = .ok (.iconst 2, 1) := by decide +kernel
theorem dL_law_1193 : decode cL_law 1193 = .ok (.iadd, 1) := by decide +kernel
theorem dL_law_1194 : decode cL_law 1194 = .ok (.iaload, 1) := by decide +kernel
theorem dL_law_1195 : decode cL_law 1195 = .ok (.invokevirtual 153, 3) := by decide +kernel
theorem dL_law_1198 : decode cL_law 1198 = .ok (.aload_n 2, 1) := by decide +kernel
theorem dL_law_1199 : decode cL_law 1199 = .ok (.aload_n 0, 1) := by decide +kernel
theorem dL_law_1200 : decode cL_law 1200 = .ok (.iload_n 3, 1) := by decide +kernel
theorem dL_law_1201 : decode cL_law 1201 = .ok (.iconst 1, 1) := by decide +kernel
theorem dL_law_1202 : decode cL_law 1202 = .ok (.iadd, 1) := by decide +kernel
theorem dL_law_1203 : decode cL_law 1203 = .ok (.iaload, 1) := by decide +kernel
theorem dL_law_1204 : decode cL_law 1204 = .ok (.aload_n 0, 1) := by decide +kernel
theorem dL_law_1205 : decode cL_law 1205 = .ok (.iload_n 3, 1) := by decide +kernel
theorem dL_law_1206 : decode cL_law 1206 = .ok (.iconst 2, 1) := by decide +kernel
theorem dL_law_1207 : decode cL_law 1207 = .ok (.iadd, 1) := by decide +kernel
theorem dL_law_1208 : decode cL_law 1208 = .ok (.iaload, 1) := by decide +kernel
theorem dL_law_1209 : decode cL_law 1209 = .ok (.invokevirtual 156, 3) := by decide +kernel
theorem dL_law_1212 : decode cL_law 1212 = .ok (.if_icmp .eq 318, 3) := by decide +kernel
theorem dL_law_1215 : decode cL_law 1215 = .ok (.iconst 0, 1) := by decide +kernel
theorem dL_law_1216 : decode cL_law 1216 = .ok (.ireturn, 1) := by decide +kernel
theorem dL_law_1217 : decode cL_law 1217 = .ok (.aload_n 1, 1) := by decide +kernel
theorem dL_law_1218 : decode cL_law 1218 = .ok (.aload_n 0, 1) := by decide +kernel
theorem dL_law_1219 : decode cL_law 1219 = .ok (.iload_n 3, 1) := by decide +kernel
theorem dL_law_1220 : decode cL_law 1220 = .ok (.iconst 1, 1) := by decide +kernel
theorem dL_law_1221 : decode cL_law 1221 = .ok (.iadd, 1) := by decide +kernel
theorem dL_law_1222 : decode cL_law 1222 = .ok (.iaload, 1) := by decide +kernel
theorem dL_law_1223 : decode cL_law 1223 = .ok (.aload_n 0, 1) := by decide +kernel
theorem dL_law_1224 : decode cL_law 1224 = .ok (.iload_n 3, 1) := by decide +kernel
theorem dL_law_1225 : decode cL_law 1225 = .ok (.iconst 2, 1) := by decide +kernel
theorem dL_law_1226 : decode cL_law 1226 = .ok (.iadd, 1) := by decide +kernel
theorem dL_law_1227 : decode cL_law 1227 = .ok (.iaload, 1) := by decide +kernel
theorem dL_law_1228 : decode cL_law 1228 = .ok (.invokevirtual 157, 3) := by decide +kernel
theorem dL_law_1231 : decode cL_law 1231 = .ok (.aload_n 2, 1) := by decide +kernel
theorem dL_law_1232 : decode cL_law 1232 = .ok (.aload_n 0, 1) := by decide +kernel
theorem dL_law_1233 : decode cL_law 1233 = .ok (.iload_n 3, 1) := by decide +kernel
theorem dL_law_1234 : decode cL_law 1234 = .ok (.iconst 1, 1) := by decide +kernel
theorem dL_law_1235 : decode cL_law 1235 = .ok (.iadd, 1) := by decide +kernel
theorem dL_law_1236 : decode cL_law 1236 = .ok (.iaload, 1) := by decide +kernel
theorem dL_law_1237 : decode cL_law 1237 = .ok (.aload_n 0, 1) := by decide +kernel
theorem dL_law_1238 : decode cL_law 1238 = .ok (.iload_n 3, 1) := by decide +kernel
theorem dL_law_1239 : decode cL_law 1239 = .ok (.iconst 2, 1) := by decide +kernel
theorem dL_law_1240 : decode cL_law 1240 = .ok (.iadd, 1) := by decide +kernel
theorem dL_law_1241 : decode cL_law 1241 = .ok (.iaload, 1) := by decide +kernel
theorem dL_law_1242 : decode cL_law 1242 = .ok (.invokevirtual 160, 3) := by decide +kernel
theorem dL_law_1245 : decode cL_law 1245 = .ok (.if_icmp .eq 285, 3) := by decide +kernel
theorem dL_law_1248 : decode cL_law 1248 = .ok (.iconst 0, 1) := by decide +kernel
theorem dL_law_1249 : decode cL_law 1249 = .ok (.ireturn, 1) := by decide +kernel
theorem dL_law_1250 : decode cL_law 1250 = .ok (.aload_n 1, 1) := by decide +kernel
theorem dL_law_1251 : decode cL_law 1251 = .ok (.aload_n 0, 1) := by decide +kernel
theorem dL_law_1252 : decode cL_law 1252 = .ok (.iload_n 3, 1) := by decide +kernel
theorem dL_law_1253 : decode cL_law 1253 = .ok (.iconst 1, 1) := by decide +kernel
theorem dL_law_1254 : decode cL_law 1254 = .ok (.iadd, 1) := by decide +kernel
theorem dL_law_1255 : decode cL_law 1255 = .ok (.iaload, 1) := by decide +kernel
theorem dL_law_1256 : decode cL_law 1256 = .ok (.aload_n 0, 1) := by decide +kernel
theorem dL_law_1257 : decode cL_law 1257 = .ok (.iload_n 3, 1) := by decide +kernel
theorem dL_law_1258 : decode cL_law 1258 = .ok (.iconst 2, 1) := by decide +kernel
theorem dL_law_1259 : decode cL_law 1259 = .ok (.iadd, 1) := by decide +kernel
theorem dL_law_1260 : decode cL_law 1260 = .ok (.iaload, 1) := by decide +kernel
theorem dL_law_1261 : decode cL_law 1261 = .ok (.aload_n 0, 1) := by decide +kernel
theorem dL_law_1262 : decode cL_law 1262 = .ok (.iload_n 3, 1) := by decide +kernel
theorem dL_law_1263 : decode cL_law 1263 = .ok (.iconst 3, 1) := by decide +kernel
theorem dL_law_1264 : decode cL_law 1264 = .ok (.iadd, 1) := by decide +kernel
theorem dL_law_1265 : decode cL_law 1265 = .ok (.iaload, 1) := by decide +kernel
theorem dL_law_1266 : decode cL_law 1266 = .ok (.invokevirtual 161, 3) := by decide +kernel
theorem dL_law_1269 : decode cL_law 1269 = .ok (.aload_n 2, 1) := by decide +kernel
theorem dL_law_1270 : decode cL_law 1270 = .ok (.aload_n 0, 1) := by decide +kernel
theorem dL_law_1271 : decode cL_law 1271 = .ok (.iload_n 3, 1) := by decide +kernel
theorem dL_law_1272 : decode cL_law 1272 = .ok (.iconst 1, 1) := by decide +kernel
theorem dL_law_1273 : decode cL_law 1273 = .ok (.iadd, 1) := by decide +kernel
theorem dL_law_1274 : decode cL_law 1274 = .ok (.iaload, 1) := by decide +kernel
theorem dL_law_1275 : decode cL_law 1275 = .ok (.aload_n 0, 1) := by decide +kernel
theorem dL_law_1276 : decode cL_law 1276 = .ok (.iload_n 3, 1) := by decide +kernel
theorem dL_law_1277 : decode cL_law 1277 = .ok (.iconst 2, 1) := by decide +kernel
theorem dL_law_1278 : decode cL_law 1278 = .ok (.iadd, 1) := by decide +kernel
theorem dL_law_1279 : decode cL_law 1279 = .ok (.iaload, 1) := by decide +kernel
theorem dL_law_1280 : decode cL_law 1280 = .ok (.aload_n 0, 1) := by decide +kernel
theorem dL_law_1281 : decode cL_law 1281 = .ok (.iload_n 3, 1) := by decide +kernel
theorem dL_law_1282 : decode cL_law 1282 = .ok (.iconst 3, 1) := by decide +kernel
theorem dL_law_1283 : decode cL_law 1283 = .ok (.iadd, 1) := by decide +kernel
theorem dL_law_1284 : decode cL_law 1284 = .ok (.iaload, 1) := by decide +kernel
theorem dL_law_1285 : decode cL_law 1285 = .ok (.invokevirtual 164, 3) := by decide +kernel
theorem dL_law_1288 : decode cL_law 1288 = .ok (.if_icmp .eq 242, 3) := by decide +kernel
theorem dL_law_1291 : decode cL_law 1291 = .ok (.iconst 0, 1) := by decide +kernel
theorem dL_law_1292 : decode cL_law 1292 = .ok (.ireturn, 1) := by decide +kernel
theorem dL_law_1293 : decode cL_law 1293 = .ok (.aload_n 1, 1) := by decide +kernel
theorem dL_law_1294 : decode cL_law 1294 = .ok (.aload_n 0, 1) := by decide +kernel
theorem dL_law_1295 : decode cL_law 1295 = .ok (.iload_n 3, 1) := by decide +kernel
theorem dL_law_1296 : decode cL_law 1296 = .ok (.iconst 1, 1) := by decide +kernel
theorem dL_law_1297 : decode cL_law 1297 = .ok (.iadd, 1) := by decide +kernel
theorem dL_law_1298 : decode cL_law 1298 = .ok (.iaload, 1) := by decide +kernel
theorem dL_law_1299 : decode cL_law 1299 = .ok (.aload_n 0, 1) := by decide +kernel
theorem dL_law_1300 : decode cL_law 1300 = .ok (.iload_n 3, 1) := by decide +kernel
theorem dL_law_1301 : decode cL_law 1301 = .ok (.iconst 2, 1) := by decide +kernel
theorem dL_law_1302 : decode cL_law 1302 = .ok (.iadd, 1) := by decide +kernel
theorem dL_law_1303 : decode cL_law 1303 = .ok (.iaload, 1) := by decide +kernel
theorem dL_law_1304 : decode cL_law 1304 = .ok (.aload_n 0, 1) := by decide +kernel
theorem dL_law_1305 : decode cL_law 1305 = .ok (.iload_n 3, 1) := by decide +kernel
theorem dL_law_1306 : decode cL_law 1306 = .ok (.iconst 3, 1) := by decide +kernel
theorem dL_law_1307 : decode cL_law 1307 = .ok (.iadd, 1) := by decide +kernel
theorem dL_law_1308 : decode cL_law 1308 = .ok (.iaload, 1) := by decide +kernel
theorem dL_law_1309 : decode cL_law 1309 = .ok (.invokevirtual 165, 3) := by decide +kernel
theorem dL_law_1312 : decode cL_law 1312 = .ok (.aload_n 2, 1) := by decide +kernel
theorem dL_law_1313 : decode cL_law 1313 = .ok (.aload_n 0, 1) := by decide +kernel
theorem dL_law_1314 : decode cL_law 1314 = .ok (.iload_n 3, 1) := by decide +kernel
theorem dL_law_1315 : decode cL_law 1315 = .ok (.iconst 1, 1) := by decide +kernel
theorem dL_law_1316 : decode cL_law 1316 = .ok (.iadd, 1) := by decide +kernel
theorem dL_law_1317 : decode cL_law 1317 = .ok (.iaload, 1) := by decide +kernel
theorem dL_law_1318 : decode cL_law 1318 = .ok (.aload_n 0, 1) := by decide +kernel
theorem dL_law_1319 : decode cL_law 1319 = .ok (.iload_n 3, 1) := by decide +kernel
theorem dL_law_1320 : decode cL_law 1320 = .ok (.iconst 2, 1) := by decide +kernel
theorem dL_law_1321 : decode cL_law 1321 = .ok (.iadd, 1) := by decide +kernel
theorem dL_law_1322 : decode cL_law 1322 = .ok (.iaload, 1) := by decide +kernel
theorem dL_law_1323 : decode cL_law 1323 = .ok (.aload_n 0, 1) := by decide +kernel
theorem dL_law_1324 : decode cL_law 1324 = .ok (.iload_n 3, 1) := by decide +kernel
theorem dL_law_1325 : decode cL_law 1325 = .ok (.iconst 3, 1) := by decide +kernel
theorem dL_law_1326 : decode cL_law 1326 = .ok (.iadd, 1) := by decide +kernel
theorem dL_law_1327 : decode cL_law 1327 = .ok (.iaload, 1) := by decide +kernel
theorem dL_law_1328 : decode cL_law 1328 = .ok (.invokevirtual 168, 3) := by decide +kernel
theorem dL_law_1331 : decode cL_law 1331 = .ok (.if_icmp .eq 199, 3) := by decide +kernel
theorem dL_law_1334 : decode cL_law 1334 = .ok (.iconst 0, 1) := by decide +kernel
theorem dL_law_1335 : decode cL_law 1335 = .ok (.ireturn, 1) := by decide +kernel
theorem dL_law_1336 : decode cL_law 1336 = .ok (.aload_n 1, 1) := by decide +kernel
theorem dL_law_1337 : decode cL_law 1337 = .ok (.aload_n 0, 1) := by decide +kernel
theorem dL_law_1338 : decode cL_law 1338 = .ok (.iload_n 3, 1) := by decide +kernel
theorem dL_law_1339 : decode cL_law 1339 = .ok (.iconst 1, 1) := by decide +kernel
theorem dL_law_1340 : decode cL_law 1340 = .ok (.iadd, 1) := by decide +kernel
theorem dL_law_1341 : decode cL_law 1341 = .ok (.iaload, 1) := by decide +kernel
theorem dL_law_1342 : decode cL_law 1342 = .ok (.aload_n 0, 1) := by decide +kernel
theorem dL_law_1343 : decode cL_law 1343 = .ok (.iload_n 3, 1) := by decide +kernel
theorem dL_law_1344 : decode cL_law 1344 = .ok (.iconst 2, 1) := by decide +kernel
theorem dL_law_1345 : decode cL_law 1345 = .ok (.iadd, 1) := by decide +kernel
theorem dL_law_1346 : decode cL_law 1346 = .ok (.iaload, 1) := by decide +kernel
theorem dL_law_1347 : decode cL_law 1347 = .ok (.aload_n 0, 1) := by decide +kernel
theorem dL_law_1348 : decode cL_law 1348 = .ok (.iload_n 3, 1) := by decide +kernel
theorem dL_law_1349 : decode cL_law 1349 = .ok (.iconst 3, 1) := by decide +kernel
theorem dL_law_1350 : decode cL_law 1350 = .ok (.iadd, 1) := by decide +kernel
theorem dL_law_1351 : decode cL_law 1351 = .ok (.iaload, 1) := by decide +kernel
theorem dL_law_1352 : decode cL_law 1352 = .ok (.aload_n 0, 1) := by decide +kernel
theorem dL_law_1353 : decode cL_law 1353 = .ok (.iload_n 3, 1) := by decide +kernel
theorem dL_law_1354 : decode cL_law 1354 = .ok (.iconst 4, 1) := by decide +kernel
theorem dL_law_1355 : decode cL_law 1355 = .ok (.iadd, 1) := by decide +kernel
theorem dL_law_1356 : decode cL_law 1356 = .ok (.iaload, 1) := by decide +kernel
theorem dL_law_1357 : decode cL_law 1357 = .ok (.aload_n 0, 1) := by decide +kernel
theorem dL_law_1358 : decode cL_law 1358 = .ok (.iload_n 3, 1) := by decide +kernel
theorem dL_law_1359 : decode cL_law 1359 = .ok (.iconst 5, 1) := by decide +kernel
theorem dL_law_1360 : decode cL_law 1360 = .ok (.iadd, 1) := by decide +kernel
theorem dL_law_1361 : decode cL_law 1361 = .ok (.iaload, 1) := by decide +kernel
theorem dL_law_1362 : decode cL_law 1362 = .ok (.invokevirtual 169, 3) := by decide +kernel
theorem dL_law_1365 : decode cL_law 1365 = .ok (.aload_n 2, 1) := by decide +kernel
theorem dL_law_1366 : decode cL_law 1366 = .ok (.aload_n 0, 1) := by decide +kernel
theorem dL_law_1367 : decode cL_law 1367 = .ok (.iload_n 3, 1) := by decide +kernel
theorem dL_law_1368 : decode cL_law 1368 = .ok (.iconst 1, 1) := by decide +kernel
theorem dL_law_1369 : decode cL_law 1369 = .ok (.iadd, 1) := by decide +kernel
theorem dL_law_1370 : decode cL_law 1370 = .ok (.iaload, 1) := by decide +kernel
theorem dL_law_1371 : decode cL_law 1371 = .ok (.aload_n 0, 1) := by decide +kernel
theorem dL_law_1372 : decode cL_law 1372 = .ok (.iload_n 3, 1) := by decide +kernel
theorem dL_law_1373 : decode cL_law 1373 = .ok (.iconst 2, 1) := by decide +kernel
theorem dL_law_1374 : decode cL_law 1374 = .ok (.iadd, 1) := by decide +kernel
theorem dL_law_1375 : decode cL_law 1375 = .ok (.iaload, 1) := by decide +kernel
theorem dL_law_1376 : decode cL_law 1376 = .ok (.aload_n 0, 1) := by decide +kernel
theorem dL_law_1377 : decode cL_law 1377 = .ok (.iload_n 3, 1) := by decide +kernel
theorem dL_law_1378 : decode cL_law 1378 = .ok (.iconst 3, 1) := by decide +kernel
theorem dL_law_1379 : decode cL_law 1379 = .ok (.iadd, 1) := by decide +kernel
theorem dL_law_1380 : decode cL_law 1380 = .ok (.iaload, 1) := by decide +kernel
theorem dL_law_1381 : decode cL_law 1381 = .ok (.aload_n 0, 1) := by decide +kernel
theorem dL_law_1382 : decode cL_law 1382 = .ok (.iload_n 3, 1) := by decide +kernel
theorem dL_law_1383 : decode cL_law 1383 = .ok (.iconst 4, 1) := by decide +kernel
theorem dL_law_1384 : decode cL_law 1384 = .ok (.iadd, 1) := by decide +kernel
theorem dL_law_1385 : decode cL_law 1385 = .ok (.iaload, 1) := by decide +kernel
theorem dL_law_1386 : decode cL_law 1386 = .ok (.aload_n 0, 1) := by decide +kernel
theorem dL_law_1387 : decode cL_law 1387 = .ok (.iload_n 3, 1) := by decide +kernel
theorem dL_law_1388 : decode cL_law 1388 = .ok (.iconst 5, 1) := by decide +kernel
theorem dL_law_1389 : decode cL_law 1389 = .ok (.iadd, 1) := by decide +kernel
theorem dL_law_1390 : decode cL_law 1390 = .ok (.iaload, 1) := by decide +kernel
theorem dL_law_1391 : decode cL_law 1391 = .ok (.invokevirtual 173, 3) := by decide +kernel
theorem dL_law_1394 : decode cL_law 1394 = .ok (.if_icmp .eq 136, 3) := by decide +kernel
theorem dL_law_1397 : decode cL_law 1397 = .ok (.iconst 0, 1) := by decide +kernel
theorem dL_law_1398 : decode cL_law 1398 = .ok (.ireturn, 1) := by decide +kernel
theorem dL_law_1399 : decode cL_law 1399 = .ok (.aload_n 1, 1) := by decide +kernel
theorem dL_law_1400 : decode cL_law 1400 = .ok (.aload_n 0, 1) := by decide +kernel
theorem dL_law_1401 : decode cL_law 1401 = .ok (.iload_n 3, 1) := by decide +kernel
theorem dL_law_1402 : decode cL_law 1402 = .ok (.iconst 1, 1) := by decide +kernel
theorem dL_law_1403 : decode cL_law 1403 = .ok (.iadd, 1) := by decide +kernel
theorem dL_law_1404 : decode cL_law 1404 = .ok (.iaload, 1) := by decide +kernel
theorem dL_law_1405 : decode cL_law 1405 = .ok (.invokevirtual 174, 3) := by decide +kernel
theorem dL_law_1408 : decode cL_law 1408 = .ok (.aload_n 2, 1) := by decide +kernel
theorem dL_law_1409 : decode cL_law 1409 = .ok (.aload_n 0, 1) := by decide +kernel
theorem dL_law_1410 : decode cL_law 1410 = .ok (.iload_n 3, 1) := by decide +kernel
theorem dL_law_1411 : decode cL_law 1411 = .ok (.iconst 1, 1) := by decide +kernel
theorem dL_law_1412 : decode cL_law 1412 = .ok (.iadd, 1) := by decide +kernel
theorem dL_law_1413 : decode cL_law 1413 = .ok (.iaload, 1) := by decide +kernel
theorem dL_law_1414 : decode cL_law 1414 = .ok (.invokevirtual 177, 3) := by decide +kernel
theorem dL_law_1417 : decode cL_law 1417 = .ok (.if_icmp .eq 113, 3) := by decide +kernel
theorem dL_law_1420 : decode cL_law 1420 = .ok (.iconst 0, 1) := by decide +kernel
theorem dL_law_1421 : decode cL_law 1421 = .ok (.ireturn, 1) := by decide +kernel
theorem dL_law_1422 : decode cL_law 1422 = .ok (.aload_n 1, 1) := by decide +kernel
theorem dL_law_1423 : decode cL_law 1423 = .ok (.aload_n 0, 1) := by decide +kernel
theorem dL_law_1424 : decode cL_law 1424 = .ok (.iload_n 3, 1) := by decide +kernel
theorem dL_law_1425 : decode cL_law 1425 = .ok (.iconst 1, 1) := by decide +kernel
theorem dL_law_1426 : decode cL_law 1426 = .ok (.iadd, 1) := by decide +kernel
theorem dL_law_1427 : decode cL_law 1427 = .ok (.iaload, 1) := by decide +kernel
theorem dL_law_1428 : decode cL_law 1428 = .ok (.invokevirtual 178, 3) := by decide +kernel
theorem dL_law_1431 : decode cL_law 1431 = .ok (.aload_n 2, 1) := by decide +kernel
theorem dL_law_1432 : decode cL_law 1432 = .ok (.aload_n 0, 1) := by decide +kernel
theorem dL_law_1433 : decode cL_law 1433 = .ok (.iload_n 3, 1) := by decide +kernel
theorem dL_law_1434 : decode cL_law 1434 = .ok (.iconst 1, 1) := by decide +kernel
theorem dL_law_1435 : decode cL_law 1435 = .ok (.iadd, 1) := by decide +kernel
theorem dL_law_1436 : decode cL_law 1436 = .ok (.iaload, 1) := by decide +kernel
theorem dL_law_1437 : decode cL_law 1437 = .ok (.invokevirtual 181, 3) := by decide +kernel
theorem dL_law_1440 : decode cL_law 1440 = .ok (.if_icmp .eq 90, 3) := by decide +kernel
theorem dL_law_1443 : decode cL_law 1443 = .ok (.iconst 0, 1) := by decide +kernel
theorem dL_law_1444 : decode cL_law 1444 = .ok (.ireturn, 1) := by decide +kernel
theorem dL_law_1445 : decode cL_law 1445 = .ok (.aload_n 1, 1) := by decide +kernel
theorem dL_law_1446 : decode cL_law 1446 = .ok (.invokevirtual 182, 3) := by decide +kernel
theorem dL_law_1449 : decode cL_law 1449 = .ok (.aload_n 2, 1) := by decide +kernel
theorem dL_law_1450 : decode cL_law 1450 = .ok (.invokevirtual 185, 3) := by decide +kernel
theorem dL_law_1453 : decode cL_law 1453 = .ok (.if_icmp .eq 77, 3) := by decide +kernel
theorem dL_law_1456 : decode cL_law 1456 = .ok (.iconst 0, 1) := by decide +kernel
theorem dL_law_1457 : decode cL_law 1457 = .ok (.ireturn, 1) := by decide +kernel
theorem dL_law_1458 : decode cL_law 1458 = .ok (.aload_n 1, 1) := by decide +kernel
theorem dL_law_1459 : decode cL_law 1459 = .ok (.invokevirtual 186, 3) := by decide +kernel
theorem dL_law_1462 : decode cL_law 1462 = .ok (.aload_n 2, 1) := by decide +kernel
theorem dL_law_1463 : decode cL_law 1463 = .ok (.invokevirtual 189, 3) := by decide +kernel
theorem dL_law_1466 : decode cL_law 1466 = .ok (.if_icmp .eq 64, 3) := by decide +kernel
theorem dL_law_1469 : decode cL_law 1469 = .ok (.iconst 0, 1) := by decide +kernel
theorem dL_law_1470 : decode cL_law 1470 = .ok (.ireturn, 1) := by decide +kernel
theorem dL_law_1471 : decode cL_law 1471 = .ok (.aload_n 1, 1) := by decide +kernel
theorem dL_law_1472 : decode cL_law 1472 = .ok (.invokevirtual 190, 3) := by decide +kernel
theorem dL_law_1475 : decode cL_law 1475 = .ok (.aload_n 2, 1) := by decide +kernel
theorem dL_law_1476 : decode cL_law 1476 = .ok (.invokevirtual 193, 3) := by decide +kernel
theorem dL_law_1479 : decode cL_law 1479 = .ok (.if_icmp .eq 51, 3) := by decide +kernel
theorem dL_law_1482 : decode cL_law 1482 = .ok (.iconst 0, 1) := by decide +kernel
theorem dL_law_1483 : decode cL_law 1483 = .ok (.ireturn, 1) := by decide +kernel
theorem dL_law_1484 : decode cL_law 1484 = .ok (.aload_n 1, 1) := by decide +kernel
theorem dL_law_1485 : decode cL_law 1485 = .ok (.aload_n 0, 1) := by decide +kernel
theorem dL_law_1486 : decode cL_law 1486 = .ok (.iload_n 3, 1) := by decide +kernel
theorem dL_law_1487 : decode cL_law 1487 = .ok (.iconst 1, 1) := by decide +kernel
theorem dL_law_1488 : decode cL_law 1488 = .ok (.iadd, 1) := by decide +kernel
theorem dL_law_1489 : decode cL_law 1489 = .ok (.iaload, 1) := by decide +kernel
theorem dL_law_1490 : decode cL_law 1490 = .ok (.invokevirtual 194, 3) := by decide +kernel
theorem dL_law_1493 : decode cL_law 1493 = .ok (.aload_n 2, 1) := by decide +kernel
theorem dL_law_1494 : decode cL_law 1494 = .ok (.aload_n 0, 1) := by decide +kernel
theorem dL_law_1495 : decode cL_law 1495 = .ok (.iload_n 3, 1) := by decide +kernel
theorem dL_law_1496 : decode cL_law 1496 = .ok (.iconst 1, 1) := by decide +kernel
theorem dL_law_1497 : decode cL_law 1497 = .ok (.iadd, 1) := by decide +kernel
theorem dL_law_1498 : decode cL_law 1498 = .ok (.iaload, 1) := by decide +kernel
theorem dL_law_1499 : decode cL_law 1499 = .ok (.invokevirtual 197, 3) := by decide +kernel
theorem dL_law_1502 : decode cL_law 1502 = .ok (.if_icmp .eq 28, 3) := by decide +kernel
theorem dL_law_1505 : decode cL_law 1505 = .ok (.iconst 0, 1) := by decide +kernel
theorem dL_law_1506 : decode cL_law 1506 = .ok (.ireturn, 1) := by decide +kernel
theorem dL_law_1507 : decode cL_law 1507 = .ok (.aload_n 1, 1) := by decide +kernel
theorem dL_law_1508 : decode cL_law 1508 = .ok (.aload_n 0, 1) := by decide +kernel
theorem dL_law_1509 : decode cL_law 1509 = .ok (.iload_n 3, 1) := by decide +kernel
theorem dL_law_1510 : decode cL_law 1510 = .ok (.iconst 1, 1) := by decide +kernel
theorem dL_law_1511 : decode cL_law 1511 = .ok (.iadd, 1) := by decide +kernel
theorem dL_law_1512 : decode cL_law 1512 = .ok (.iaload, 1) := by decide +kernel
theorem dL_law_1513 : decode cL_law 1513 = .ok (.invokevirtual 198, 3) := by decide +kernel
theorem dL_law_1516 : decode cL_law 1516 = .ok (.aload_n 2, 1) := by decide +kernel
theorem dL_law_1517 : decode cL_law 1517 = .ok (.aload_n 0, 1) := by decide +kernel
theorem dL_law_1518 : decode cL_law 1518 = .ok (.iload_n 3, 1) := by decide +kernel
theorem dL_law_1519 : decode cL_law 1519 = .ok (.iconst 1, 1) := by decide +kernel
theorem dL_law_1520 : decode cL_law 1520 = .ok (.iadd, 1) := by decide +kernel
theorem dL_law_1521 : decode cL_law 1521 = .ok (.iaload, 1) := by decide +kernel
theorem dL_law_1522 : decode cL_law 1522 = .ok (.invokevirtual 201, 3) := by decide +kernel
theorem dL_law_1525 : decode cL_law 1525 = .ok (.if_icmp .eq 5, 3) := by decide +kernel
theorem dL_law_1528 : decode cL_law 1528 = .ok (.iconst 0, 1) := by decide +kernel
theorem dL_law_1529 : decode cL_law 1529 = .ok (.ireturn, 1) := by decide +kernel
theorem dL_law_1530 : decode cL_law 1530 = .ok (.iinc 3 6, 3) := by decide +kernel
theorem dL_law_1533 : decode cL_law 1533 = .ok (.goto (-1515), 3) := by decide +kernel
theorem dL_law_1536 : decode cL_law 1536 = .ok (.iconst 1, 1) := by decide +kernel
theorem dL_law_1537 : decode cL_law 1537 = .ok (.ireturn, 1) := by decide +kernel
abbrev vwCl : List vw_C := [(RX0, TX0, 2), (RX1, TX1, 4), (RX2, TX2, 15), (RX4, TX4, 6), (RX5, TX5, 3), (RX6, TX6, 6), (RX7, TX7, 2), (RX8, TX8, 10), (RX9, TX9, 15)]
end
section
/-! THE LAYER: a pure picture of all 72 cells (an int memory M over fixed numbers of cells), and the judgement V over it -/
abbrev Mem : Type := Nat → Nat → Int32
abbrev MD : Type := MethodName × ByteArray × Nat × Option FieldType × Room × Option (Nat × (Nat → Int32))
abbrev ShT : Type := Nat ⊕ (Nat × List (Option Nat))
def TBL : List Cond := lw_tbl.filter goodWord
theorem tbl_in {w : Cond} (h : w ∈ lw_tbl) (hg : goodWord w = true) : w ∈ TBL := List.mem_filter.mpr ⟨h, hg⟩
theorem tbl_t {w : Cond} (i : Nat) (h : tables_1[i]? = some w) (hg : goodWord w = true) : w ∈ TBL := tbl_in (List.mem_append_right _ (List.mem_of_getElem? h)) hg
theorem tbl_good : ∀ w ∈ TBL, (w.onTables && w.keeps) = true ∨ ∃ ty, w = .arrayClass ty := fun _ h => good_of_word (List.mem_filter.mp h).2
def tEv (e : Nat) : List ShT := [.inr (2, [some (e+1), some (e+7), some (e+11), some (e+12), none, none, none, none, none, none, none, none, none, none, none]), .inr (3, [some (e+2), some (e+3), some (e+4), some (e+5), some (e+6), none]), .inl 10, .inl 10, .inl 10, .inl 10, .inl 10, .inr (1, [some (e+8), some (e+9), some (e+10), none]), .inl 12, .inl 12, .inl 12, .inl 7, .inl 10]
def shp : List ShT := [.inr (7, [some 1, some 14, some 27, some 40, some 53, some 54, some 56, some 57, some 61, none])] ++ (tEv 1 ++ (tEv 14 ++ (tEv 27 ++ (tEv 40 ++ [.inr (0, [none, none]), .inr (5, [some 55, none, none, none, none, none]), .inl 120, .inr (6, [some 54, some 27]), .inr (4, [some 58, some 59, some 60]), .inl 4, .inl 4, .inl 160, .inl 7, .inr (8, [some 63, some 64, some 65, some 66, none, some 67, none, none, none, none, none, some 68, some 69, some 70, some 71]), .inl 116, .inl 116, .inl 116, .inl 7, .inl 120, .inl 4, .inl 4, .inl 160, .inl 40]))))
def sh (k : Nat) : ShT := shp.getD k (.inl 0)
theorem shp_len : shp.length = 72 := by decide +kernel
theorem sh_lt {k ci : Nat} {fl : List (Option Nat)} (h : sh k = .inr (ci, fl)) : k < 72 := by
  rcases Nat.lt_or_ge k 72 with q | q
  · exact q
  · unfold sh at h
    rw [List.getD_eq_getElem?_getD, List.getElem?_eq_none (by rw [shp_len]; exact q)] at h
    cases h
theorem sh_ltA {k n : Nat} (h : sh k = .inl n) (hn : 0 < n) : k < 72 := by
  rcases Nat.lt_or_ge k 72 with q | q
  · exact q
  · unfold sh at h
    rw [List.getD_eq_getElem?_getD, List.getElem?_eq_none (by rw [shp_len]; exact q)] at h
    cases h
    omega
def fv (ad : Nat → Nat) (m : Nat → Int32) : Nat → List (Option Nat) → List Value
  | _, [] => []
  | j, o :: t => (match o with | some r => .ref (ad r) | none => .int (m j)) :: fv ad m (j + 1) t
theorem fv_len (ad : Nat → Nat) (m : Nat → Int32) (fl : List (Option Nat)) : ∀ j, (fv ad m j fl).length = fl.length := by
  induction fl with
  | nil => intro j; rfl
  | cons o t ih => intro j; simp [fv, ih]
theorem fv_ref {ad : Nat → Nat} {m : Nat → Int32} {fl : List (Option Nat)} : ∀ {j i r : Nat}, fl[i]? = some (some r) → (fv ad m j fl)[i]? = some (.ref (ad r)) := by
  induction fl with
  | nil => intro j i r h; simp at h
  | cons o t ih =>
    intro j i r h
    cases i with
    | zero => simp at h; subst h; simp [fv]
    | succ i => simp at h; simp [fv, ih h]
theorem fv_int {ad : Nat → Nat} {m : Nat → Int32} {fl : List (Option Nat)} : ∀ {j i : Nat}, fl[i]? = some none → (fv ad m j fl)[i]? = some (.int (m (j + i))) := by
  induction fl with
  | nil => intro j i h; simp at h
  | cons o t ih =>
    intro j i h
    cases i with
    | zero => simp at h; subst h; simp [fv]
    | succ i => simp at h; simp [fv, ih h, Nat.add_assoc, Nat.add_comm 1 i]
theorem fv_congr {ad : Nat → Nat} {m m' : Nat → Int32} {fl : List (Option Nat)} : ∀ {j : Nat}, (∀ i, j ≤ i → m i = m' i) → fv ad m j fl = fv ad m' j fl := by
  induction fl with
  | nil => intro j h; rfl
  | cons o t ih =>
    intro j h
    simp only [fv]
    rw [ih (fun i hi => h i (by omega)), h j (Nat.le_refl j)]
theorem fv_set {ad : Nat → Nat} {m : Nat → Int32} {fl : List (Option Nat)} {v : Int32} : ∀ {j i : Nat}, fl[i]? = some none → (fv ad m j fl).set i (.int v) = fv ad (upd m (j + i) v) j fl := by
  induction fl with
  | nil => intro j i h; simp at h
  | cons o t ih =>
    intro j i h
    cases i with
    | zero =>
      simp at h
      subst h
      simp only [fv, List.set_cons_zero, Nat.add_zero]
      rw [fv_congr (m := m) (m' := upd m j v) (fun i hi => by simp [upd, show i ≠ j by omega])]
      simp [upd]
    | succ i =>
      simp at h
      simp only [fv, List.set_cons_succ]
      rw [ih h, show j + 1 + i = j + (i + 1) by omega]
      cases o with
      | none => simp [upd]
      | some r => rfl
def cE (ad : Nat → Nat) (cI : ClassId) (M : Mem) (k : Nat) : va_E := match sh k with
  | .inl n => .inl (cI, n, .inl (M k))
  | .inr (ci, fl) => .inr (ci, fv ad (M k) 0 fl)
def wsOf (ad : Nat → Nat) (cI : ClassId) (M : Mem) : va_W := (List.range 72).map fun k => (ad k, cE ad cI M k)
theorem ws_at (ad : Nat → Nat) (cI : ClassId) (M : Mem) {k : Nat} (h : k < 72) : (wsOf ad cI M)[k]? = some (ad k, cE ad cI M k) := by
  simp [wsOf, h]
theorem ws_obj (ad : Nat → Nat) (cI : ClassId) (M : Mem) {k ci : Nat} {fl : List (Option Nat)} (h : sh k = .inr (ci, fl)) : (wsOf ad cI M)[k]? = some (ad k, .inr (ci, fv ad (M k) 0 fl)) := by
  rw [ws_at ad cI M (sh_lt h)]
  simp [cE, h]
theorem ws_arr (ad : Nat → Nat) (cI : ClassId) (M : Mem) {k n : Nat} (h : sh k = .inl n) (hn : 0 < n) : (wsOf ad cI M)[k]? = some (ad k, .inl (cI, n, .inl (M k))) := by
  rw [ws_at ad cI M (sh_ltA h hn)]
  simp [cE, h]
/-- one number of the memory is written -/
def ms (M : Mem) (k j : Nat) (v : Int32) : Mem := fun a b => if a = k then (if b = j then v else M a b) else M a b
/-- a whole row is written -/
def mr (M : Mem) (k : Nat) (f : Nat → Int32) : Mem := fun a b => if a = k then f b else M a b
theorem ws_set (ad : Nat → Nat) (cI : ClassId) (M M' : Mem) {k : Nat} (h : k < 72) (hM : ∀ a, a ≠ k → M' a = M a) : (wsOf ad cI M).set k (ad k, cE ad cI M' k) = wsOf ad cI M' := by
  apply List.ext_getElem?
  intro i
  rcases Nat.lt_or_ge i 72 with q | q
  · by_cases e : i = k
    · subst e
      rw [ws_at ad cI M' q, List.getElem?_set_self (by simp [wsOf, q])]
    · rw [List.getElem?_set_ne (fun z => e z.symm), ws_at ad cI M q, ws_at ad cI M' q]
      simp [cE, hM i e]
  · rw [List.getElem?_eq_none (by simp [wsOf]; exact q), List.getElem?_eq_none (by simp [wsOf]; exact q)]
theorem ws_setF (ad : Nat → Nat) (cI : ClassId) (M : Mem) {k ci j : Nat} {fl : List (Option Nat)} {v : Int32} (h : sh k = .inr (ci, fl)) (hf : fl[j]? = some none) : (wsOf ad cI M).set k (ad k, .inr (ci, (fv ad (M k) 0 fl).set j (.int v))) = wsOf ad cI (ms M k j v) := by
  rw [← ws_set ad cI M (ms M k j v) (sh_lt h) (fun a ha => by funext b; simp [ms, ha])]
  congr 2
  simp only [cE, h]
  rw [fv_set hf]
  congr 2
  rw [show ms M k j v k = upd (M k) (0 + j) v from by funext b; simp [ms, upd]]
theorem ws_setA (ad : Nat → Nat) (cI : ClassId) (M : Mem) {k n j : Nat} {v : Int32} (h : sh k = .inl n) (hn : 0 < n) : (wsOf ad cI M).set k (ad k, .inl (cI, n, .inl (upd (M k) j v))) = wsOf ad cI (ms M k j v) := by
  rw [← ws_set ad cI M (ms M k j v) (sh_ltA h hn) (fun a ha => by funext b; simp [ms, ha])]
  congr 2
  simp only [cE, h]
  rw [show ms M k j v k = upd (M k) j v from by funext b; simp [ms, upd]]
theorem ws_setR (ad : Nat → Nat) (cI : ClassId) (M : Mem) {k n : Nat} {f : Nat → Int32} (h : sh k = .inl n) (hn : 0 < n) : (wsOf ad cI M).set k (ad k, .inl (cI, n, .inl f)) = wsOf ad cI (mr M k f) := by
  rw [← ws_set ad cI M (mr M k f) (sh_ltA h hn) (fun a ha => by funext b; simp [mr, ha])]
  congr 2
  simp only [cE, h]
  rw [show mr M k f k = f from by funext b; simp [mr]]
def AA (ad : Nat → Nat) : Nat → Prop := fun q => ∃ k, k < 72 ∧ q = ad k
def Inj (ad : Nat → Nat) : Prop := ∀ i j, i < 72 → j < 72 → ad i = ad j → i = j
theorem ws_D {ad : Nat → Nat} (cI : ClassId) (M : Mem) (h : Inj ad) : va_D (AA ad) (wsOf ad cI M) := by
  have key : ∀ (k : Nat) (q : Nat × va_E), (wsOf ad cI M)[k]? = some q → k < 72 ∧ q.1 = ad k := by
    intro k q hq
    have hk : k < 72 := by
      have := (List.getElem?_eq_some_iff.mp hq).1
      simpa [wsOf] using this
    rw [ws_at ad cI M hk] at hq
    obtain rfl := Option.some.inj hq
    exact ⟨hk, rfl⟩
  refine ⟨fun i j p q hp hq e => ?_, fun k q hq => ⟨k, (key k q hq).1, (key k q hq).2⟩⟩
  have a := key i p hp
  have b := key j q hq
  exact h i j a.1 b.1 (by rw [← a.2, ← b.2]; exact e)
def tr (ad : Nat → Nat) : Value → Value
  | .ref k => .ref (ad k)
  | v => v
theorem tr_cat (ad : Nat → Nat) (v : Value) : (tr ad v).category = v.category := by cases v <;> rfl
theorem tr_sum (ad : Nat → Nat) (st : List Value) : ((st.map (tr ad)).map fun v => v.category).sum = (st.map fun v => v.category).sum := by
  rw [List.map_map]
  congr 1
  exact List.map_congr_left fun v _ => tr_cat ad v
def trL (ad : Nat → Nat) (L : List (Nat × Value)) : List (Nat × Value) := L.map fun q => (q.1, tr ad q.2)
theorem lv_args_tr (ad : Nat → Nat) (vs : List Value) : ∀ i, lv_args i (vs.map (tr ad)) = trL ad (lv_args i vs) := by
  induction vs with
  | nil => intro i; rfl
  | cons v t ih => intro i; simp only [List.map_cons, lv_args, trL, tr_cat, List.map_cons]; rw [ih]; rfl
theorem lg_sl_tr (ad : Nat → Nat) (vs : List Value) : (lg_sl (vs.map (tr ad))).length = (lg_sl vs).length := by
  induction vs with
  | nil => rfl
  | cons v t ih =>
    unfold lg_sl at ih ⊢
    simp only [List.map_cons, List.flatMap_cons, List.length_append, ih, tr_cat]
    split <;> rfl
theorem trL_mem {ad : Nat → Nat} {ls : Array Slot} {nL : Nat} {L : List (Nat × Value)} (h : lv_has ls nL (trL ad L)) {i : Nat} {v : Value} (hi : L.lookup i = some v) : ls[i]? = some (.val (tr ad v)) := by
  have hm : (i, v) ∈ L := by
    clear h
    induction L with
    | nil => simp at hi
    | cons q t ih =>
      obtain ⟨a, b⟩ := q
      rw [List.lookup_cons] at hi
      by_cases e : i = a
      · subst e
        simp at hi
        subst hi
        exact List.mem_cons_self
      · have e1 : (i == a) = false := by simp [e]
        rw [e1] at hi
        exact List.mem_cons_of_mem _ (ih hi)
  exact h.2.2 (i, tr ad v) (List.mem_map.mpr ⟨(i, v), hm, rfl⟩)
/-- String constants of TextReader, by their places: entry of its file, text, bytes -/
def sIdx : List Nat := [38, 47, 53, 55, 79, 104, 106, 121, 123, 125, 127, 129, 131, 133, 135, 137, 139]
def sTx : List String := ["crowd", "heat", "price", "cold", "roast", "at", "minute", "nut", "large", "small", "sweet", "raw", "wormed", "old", "pan", "rim", "heap"]
def sByt : List (List Int32) := [[99, 114, 111, 119, 100], [104, 101, 97, 116], [112, 114, 105, 99, 101], [99, 111, 108, 100], [114, 111, 97, 115, 116], [97, 116], [109, 105, 110, 117, 116, 101], [110, 117, 116], [108, 97, 114, 103, 101], [115, 109, 97, 108, 108], [115, 119, 101, 101, 116], [114, 97, 119], [119, 111, 114, 109, 101, 100], [111, 108, 100], [112, 97, 110], [114, 105, 109], [104, 101, 97, 112]]
def sLen : List Nat := [5, 4, 5, 4, 5, 2, 6, 3, 5, 5, 5, 3, 6, 3, 3, 3, 4]
def SX (ad : Nat → Nat) (U : State) (H : Heap) : Prop := vk_S 17 sLen sByt (fun i => ad (100 + i)) (fun i => ad (200 + i)) (AA ad) U H ∧ (∀ i, i < 17 → vk_R RX7 (sIdx.getD i 0) (sTx.getD i "") (ad (100 + i)) U) ∧ va_Z "java/lang/String" "COMPACT_STRINGS" "Z" (.int 1) (AA ad) U H ∧ (va_Z "jdk/internal/util/Preconditions" "SIOOBE_FORMATTER" "Ljava/util/function/BiFunction;" .null (AA ad) U H ∨ va_Z "jdk/internal/util/Preconditions" "SIOOBE_FORMATTER" "Ljava/util/function/BiFunction;" (.ref (ad 98)) (AA ad) U H)
/-- the world at a method's start -/
def PU (ad : Nat → Nat) (D : va_G) (cI : ClassId) (M : Mem) (U : State) : Prop := va_P D vwCl (wsOf ad cI M) U.heap ∧ va_K D vwCl [(cI, .int)] U ∧ Inj ad ∧ SX ad U U.heap
def CX (md : MD) (p : Program) (s : State) (m : MethodId) (args : Array Value) (meth : Method) (c : Code) (cells slots : Nat) (ad : Nat → Nat) (D : va_G) (cI : ClassId) : Prop :=
  p.tables.exec = Jvm.exec ∧ c.code = md.2.1 ∧ c.maxLocals = md.2.2.1 ∧ s.vm.findClass md.1.cls = some m.cls ∧ (∀ w ∈ TBL, w.before args s = true) ∧ cells ≤ md.2.2.2.2.1.cells ∧ slots ≤ md.2.2.2.2.1.slots ∧ va_K D vwCl [(cI, .int)] s ∧ Inj ad ∧ SX ad s s.heap ∧
  (match md.2.2.2.2.2 with | none => True | some X => va_X (ad 99) X.1 X.2 s s.heap ∧ ad 99 < s.heap.size ∧ ¬ AA ad (ad 99))
def retOK (md : MD) (rv : Option Value) (pc : Nat) : Prop := match rv with
  | none => decode md.2.1 pc = .ok (.return_, 1) ∧ md.2.2.2.1 = none
  | some (.int v) => decode md.2.1 pc = .ok (.ireturn, 1) ∧ ∃ ty, md.2.2.2.1 = some ty ∧ narrow ty (.int v) = .int v
  | some (.long _) => decode md.2.1 pc = .ok (.lreturn, 1) ∧ md.2.2.2.1 = some .long
  | _ => False
def EN (md : MD) (p : Program) (l : Launch) (e : Env) (s : State) (m : MethodId) (args : Array Value) (below : List Frame) (meth : Method) (c : Code) (cells slots : Nat) (Z : State → Prop) (ad : Nat → Nat) (D : va_G) (cI : ClassId) (Q : Option Value → Mem → Prop) : Prop :=
  ∀ (rv : Option Value) (M' : Mem) (H' : Heap) (locs' : List Loc) (pc' : Nat) (ls' : Array Slot), retOK md rv pc' → Q rv M' → va_P D vwCl (wsOf ad cI M') H' → va_S (AA ad) s.heap H' locs' → W p l e md.2.2.2.2.1 s m args below meth c H' locs' cells slots Z (F0 m pc' ls' (rv.map (tr ad)).toList)
/-- from pc, with these locals, this stack and this memory, the method comes to its end with Q -/
def V (md : MD) (pc : Nat) (L : List (Nat × Value)) (st : List Value) (M : Mem) (Q : Option Value → Mem → Prop) : Prop :=
  ∀ (p : Program) (l : Launch) (e : Env) (s : State) (m : MethodId) (args : Array Value) (below : List Frame) (meth : Method) (c : Code) (cells slots : Nat) (Z : State → Prop) (ad : Nat → Nat) (D : va_G) (cI : ClassId),
    CX md p s m args meth c cells slots ad D cI → EN md p l e s m args below meth c cells slots Z ad D cI Q →
    ∀ (H : Heap) (locs : List Loc) (ls : Array Slot), va_P D vwCl (wsOf ad cI M) H → va_S (AA ad) s.heap H locs → lv_has ls md.2.2.1 (trL ad L) →
      W p l e md.2.2.2.2.1 s m args below meth c H locs cells slots Z (F0 m pc ls (st.map (tr ad)))
theorem V.mono {md : MD} {pc : Nat} {L : List (Nat × Value)} {st : List Value} {M : Mem} {Q Q' : Option Value → Mem → Prop} (hQ : ∀ rv M', Q rv M' → Q' rv M') (h : V md pc L st M Q) : V md pc L st M Q' :=
  fun p l e s m args below meth c cells slots Z ad D cI hC hE => h p l e s m args below meth c cells slots Z ad D cI hC (fun rv M' H' locs' pc' ls' a b => hE rv M' H' locs' pc' ls' a (hQ rv M' b))
/-- the locals may be listed otherwise -/
theorem V.loc {md : MD} {pc : Nat} {L L' : List (Nat × Value)} {st : List Value} {M : Mem} {Q : Option Value → Mem → Prop} (hL : ∀ q ∈ L', q ∈ L) (h : V md pc L' st M Q) : V md pc L st M Q :=
  fun p l e s m args below meth c cells slots Z ad D cI hC hE H locs ls hP hS hl => h p l e s m args below meth c cells slots Z ad D cI hC hE H locs ls hP hS ⟨hl.1, hl.2.1, fun q hq => by
    obtain ⟨q', h1, rfl⟩ := List.mem_map.mp hq
    exact hl.2.2 _ (List.mem_map.mpr ⟨q', hL q' h1, rfl⟩)⟩
section VR
variable {md : MD} {pc pc' : Nat} {L L' : List (Nat × Value)} {st : List Value} {M M' : Mem} {Q : Option Value → Mem → Prop}
theorem V.ret {v : Int32} {ty : FieldType} (hd : decode md.2.1 pc = .ok (.ireturn, 1)) (hr : md.2.2.2.1 = some ty) (hn : narrow ty (.int v) = .int v) (h : Q (some (.int v)) M) : V md pc L [.int v] M Q :=
  fun p l e s m args below meth c cells slots Z ad D cI hC hE H locs ls hP hS hl => hE (some (.int v)) M H locs pc ls ⟨hd, ty, hr, hn⟩ h hP hS
theorem V.lret {v : Int64} (hd : decode md.2.1 pc = .ok (.lreturn, 1)) (hr : md.2.2.2.1 = some .long) (h : Q (some (.long v)) M) : V md pc L [.long v] M Q :=
  fun p l e s m args below meth c cells slots Z ad D cI hC hE H locs ls hP hS hl => hE (some (.long v)) M H locs pc ls ⟨hd, hr⟩ h hP hS
theorem V.vret (hd : decode md.2.1 pc = .ok (.return_, 1)) (hr : md.2.2.2.1 = none) (h : Q none M) : V md pc L [] M Q :=
  fun p l e s m args below meth c cells slots Z ad D cI hC hE H locs ls hP hS hl => hE none M H locs pc ls ⟨hd, hr⟩ h hP hS
theorem V.iconst {n : Int} {v : Int32} (hd : decode md.2.1 pc = .ok (.iconst n, 1)) (hv : Int32.ofInt n = v) (hp : pc + 1 = pc') (k : V md pc' L (.int v :: st) M Q) : V md pc L st M Q := by
  subst hp
  intro p l e s m args below meth c cells slots Z ad D cI hC hE H locs ls hP hS hl
  exact lv_iconst hC.1 hC.2.1 hd hv (k p l e s m args below meth c cells slots Z ad D cI hC hE H locs ls hP hS hl)
theorem V.bipush {n : Int} {v : Int32} (hd : decode md.2.1 pc = .ok (.bipush n, 2)) (hv : (Int8.ofInt n).toInt32 = v) (hp : pc + 2 = pc') (k : V md pc' L (.int v :: st) M Q) : V md pc L st M Q := by
  subst hp
  intro p l e s m args below meth c cells slots Z ad D cI hC hE H locs ls hP hS hl
  exact lv_bipush hC.1 hC.2.1 hd hv (k p l e s m args below meth c cells slots Z ad D cI hC hE H locs ls hP hS hl)
theorem V.sipush {n : Int} {v : Int32} (hd : decode md.2.1 pc = .ok (.sipush n, 3)) (hv : (Int16.ofInt n).toInt32 = v) (hp : pc + 3 = pc') (k : V md pc' L (.int v :: st) M Q) : V md pc L st M Q := by
  subst hp
  intro p l e s m args below meth c cells slots Z ad D cI hC hE H locs ls hP hS hl
  exact lv_sipush hC.1 hC.2.1 hd hv (k p l e s m args below meth c cells slots Z ad D cI hC hE H locs ls hP hS hl)
theorem V.lconst {n : Fin 2} {v : Int64} (hd : decode md.2.1 pc = .ok (.lconst n, 1)) (hv : Int64.ofNat (n : Nat) = v) (hp : pc + 1 = pc') (k : V md pc' L (.long v :: st) M Q) : V md pc L st M Q := by
  subst hp
  intro p l e s m args below meth c cells slots Z ad D cI hC hE H locs ls hP hS hl
  exact lv_lconst hC.1 hC.2.1 hd hv (k p l e s m args below meth c cells slots Z ad D cI hC hE H locs ls hP hS hl)
theorem V.ldc {i : Nat} {v : Int32} (hd : decode md.2.1 pc = .ok (.ldc i, 2)) (hv : Cond.constant md.1.cls i v ∈ TBL) (hp : pc + 2 = pc') (k : V md pc' L (.int v :: st) M Q) : V md pc L st M Q := by
  subst hp
  intro p l e s m args below meth c cells slots Z ad D cI hC hE H locs ls hP hS hl
  exact lv_ldc hC.1 hC.2.1 hC.2.2.2.1 (hC.2.2.2.2.1 _ hv) hd (k p l e s m args below meth c cells slots Z ad D cI hC hE H locs ls hP hS hl)
theorem V.ldcw {i : Nat} {v : Int32} (hd : decode md.2.1 pc = .ok (.ldc_w i, 3)) (hv : Cond.constant md.1.cls i v ∈ TBL) (hp : pc + 3 = pc') (k : V md pc' L (.int v :: st) M Q) : V md pc L st M Q := by
  subst hp
  intro p l e s m args below meth c cells slots Z ad D cI hC hE H locs ls hP hS hl
  exact lv_ldcw hC.1 hC.2.1 hC.2.2.2.1 (hC.2.2.2.2.1 _ hv) hd (k p l e s m args below meth c cells slots Z ad D cI hC hE H locs ls hP hS hl)
theorem V.ldc2 {i : Nat} {v : Int64} (hd : decode md.2.1 pc = .ok (.ldc2_w i, 3)) (hv : Cond.constantLong md.1.cls i v ∈ TBL) (hp : pc + 3 = pc') (k : V md pc' L (.long v :: st) M Q) : V md pc L st M Q := by
  subst hp
  intro p l e s m args below meth c cells slots Z ad D cI hC hE H locs ls hP hS hl
  exact lv_ldc2 hC.1 hC.2.1 hC.2.2.2.1 (hC.2.2.2.2.1 _ hv) hd (k p l e s m args below meth c cells slots Z ad D cI hC hE H locs ls hP hS hl)
theorem V.ldcS {j i : Nat} (hd : decode md.2.1 pc = .ok (.ldc j, 2)) (hi : i < 17) (hj : sIdx.getD i 0 = j) (hc : md.1.cls = RX7) (hp : pc + 2 = pc') (k : V md pc' L (.ref (100 + i) :: st) M Q) : V md pc L st M Q := by
  subst hp
  subst hj
  intro p l e s m args below meth c cells slots Z ad D cI hC hE H locs ls hP hS hl
  have h1 := hC.2.2.2.2.2.2.2.2.2.1.2.1 i hi
  exact va_ldcS hC.1 hC.2.1 (by rw [← hc]; exact hC.2.2.2.1) h1 hd (k p l e s m args below meth c cells slots Z ad D cI hC hE H locs ls hP hS hl)
theorem V.iload_n {k : Fin 4} {i : Nat} {x : Int32} (hd : decode md.2.1 pc = .ok (.iload_n k, 1)) (hi : (k : Nat) = i) (hl : L.lookup i = some (.int x)) (hp : pc + 1 = pc') (kk : V md pc' L (.int x :: st) M Q) : V md pc L st M Q := by
  subst hp
  intro p l e s m args below meth c cells slots Z ad D cI hC hE H locs ls hP hS hls
  exact lv_iload_n hC.1 hC.2.1 hd hi (trL_mem hls hl) (kk p l e s m args below meth c cells slots Z ad D cI hC hE H locs ls hP hS hls)
theorem V.iload {i : Nat} {x : Int32} (hd : decode md.2.1 pc = .ok (.iload i, 2)) (hl : L.lookup i = some (.int x)) (hp : pc + 2 = pc') (kk : V md pc' L (.int x :: st) M Q) : V md pc L st M Q := by
  subst hp
  intro p l e s m args below meth c cells slots Z ad D cI hC hE H locs ls hP hS hls
  exact lv_iload hC.1 hC.2.1 hd (trL_mem hls hl) (kk p l e s m args below meth c cells slots Z ad D cI hC hE H locs ls hP hS hls)
theorem V.lload_n {k : Fin 4} {i : Nat} {x : Int64} (hd : decode md.2.1 pc = .ok (.lload_n k, 1)) (hi : (k : Nat) = i) (hl : L.lookup i = some (.long x)) (hp : pc + 1 = pc') (kk : V md pc' L (.long x :: st) M Q) : V md pc L st M Q := by
  subst hp
  intro p l e s m args below meth c cells slots Z ad D cI hC hE H locs ls hP hS hls
  exact lv_lload_n hC.1 hC.2.1 hd hi (trL_mem hls hl) (kk p l e s m args below meth c cells slots Z ad D cI hC hE H locs ls hP hS hls)
theorem V.lload {i : Nat} {x : Int64} (hd : decode md.2.1 pc = .ok (.lload i, 2)) (hl : L.lookup i = some (.long x)) (hp : pc + 2 = pc') (kk : V md pc' L (.long x :: st) M Q) : V md pc L st M Q := by
  subst hp
  intro p l e s m args below meth c cells slots Z ad D cI hC hE H locs ls hP hS hls
  exact lv_lload hC.1 hC.2.1 hd (trL_mem hls hl) (kk p l e s m args below meth c cells slots Z ad D cI hC hE H locs ls hP hS hls)
theorem V.aload_n {k : Fin 4} {i x : Nat} (hd : decode md.2.1 pc = .ok (.aload_n k, 1)) (hi : (k : Nat) = i) (hl : L.lookup i = some (.ref x)) (hp : pc + 1 = pc') (kk : V md pc' L (.ref x :: st) M Q) : V md pc L st M Q := by
  subst hp
  intro p l e s m args below meth c cells slots Z ad D cI hC hE H locs ls hP hS hls
  exact lv_aload_n hC.1 hC.2.1 hd hi (trL_mem hls hl) (kk p l e s m args below meth c cells slots Z ad D cI hC hE H locs ls hP hS hls)
def lsF (L : List (Nat × Value)) (i : Nat) : List (Nat × Value) := L.filter (fun q => !(q.1 == i) && !(q.1 + 1 == i && q.2.category == 2))
theorem lsF_tr (ad : Nat → Nat) (L : List (Nat × Value)) (i : Nat) : (trL ad L).filter (fun q => !(q.1 == i) && !(q.1 + 1 == i && q.2.category == 2)) = trL ad (lsF L i) := by
  unfold trL lsF
  rw [List.filter_map]
  congr 1
  apply List.filter_congr
  intro q _
  simp [tr_cat]
theorem V.istore_n {k : Fin 4} {i : Nat} {x : Int32} (hd : decode md.2.1 pc = .ok (.istore_n k, 1)) (hi : (k : Nat) = i) (hn : i < md.2.2.1) (hL : (i, Value.int x) :: lsF L i = L') (hp : pc + 1 = pc') (kk : V md pc' L' st M Q) : V md pc L (.int x :: st) M Q := by
  subst hp
  subst hL
  intro p l e s m args below meth c cells slots Z ad D cI hC hE H locs ls hP hS hls
  exact lv_istore_n hC.1 hC.2.1 hd hi hls hn (by rw [lsF_tr]; rfl) (fun ls' h' => kk p l e s m args below meth c cells slots Z ad D cI hC hE H locs ls' hP hS h')
theorem V.istore {i : Nat} {x : Int32} (hd : decode md.2.1 pc = .ok (.istore i, 2)) (hn : i < md.2.2.1) (hL : (i, Value.int x) :: lsF L i = L') (hp : pc + 2 = pc') (kk : V md pc' L' st M Q) : V md pc L (.int x :: st) M Q := by
  subst hp
  subst hL
  intro p l e s m args below meth c cells slots Z ad D cI hC hE H locs ls hP hS hls
  exact lv_istore hC.1 hC.2.1 hd hls hn (by rw [lsF_tr]; rfl) (fun ls' h' => kk p l e s m args below meth c cells slots Z ad D cI hC hE H locs ls' hP hS h')
def lsF2 (L : List (Nat × Value)) (i : Nat) : List (Nat × Value) := L.filter (fun q => !(q.1 == i) && (!(q.1 == i + 1) && !(q.1 + 1 == i && q.2.category == 2)))
theorem lsF2_tr (ad : Nat → Nat) (L : List (Nat × Value)) (i : Nat) : (trL ad L).filter (fun q => !(q.1 == i) && (!(q.1 == i + 1) && !(q.1 + 1 == i && q.2.category == 2))) = trL ad (lsF2 L i) := by
  unfold trL lsF2
  rw [List.filter_map]
  congr 1
  apply List.filter_congr
  intro q _
  simp [tr_cat]
theorem V.lstore_n {k : Fin 4} {i : Nat} {x : Int64} (hd : decode md.2.1 pc = .ok (.lstore_n k, 1)) (hi : (k : Nat) = i) (hn : i + 1 < md.2.2.1) (hL : (i, Value.long x) :: lsF2 L i = L') (hp : pc + 1 = pc') (kk : V md pc' L' st M Q) : V md pc L (.long x :: st) M Q := by
  subst hp
  subst hL
  intro p l e s m args below meth c cells slots Z ad D cI hC hE H locs ls hP hS hls
  exact lv_lstore_n hC.1 hC.2.1 hd hi hls hn (by rw [lsF2_tr]; rfl) (fun ls' h' => kk p l e s m args below meth c cells slots Z ad D cI hC hE H locs ls' hP hS h')
theorem V.astore_n {k : Fin 4} {i x : Nat} (hd : decode md.2.1 pc = .ok (.astore_n k, 1)) (hi : (k : Nat) = i) (hn : i < md.2.2.1) (hL : (i, Value.ref x) :: lsF L i = L') (hp : pc + 1 = pc') (kk : V md pc' L' st M Q) : V md pc L (.ref x :: st) M Q := by
  subst hp
  subst hL
  intro p l e s m args below meth c cells slots Z ad D cI hC hE H locs ls hP hS hls
  exact lv_astore_n hC.1 hC.2.1 hd hi hls hn (by rw [lsF_tr]; rfl) (fun ls' h' => kk p l e s m args below meth c cells slots Z ad D cI hC hE H locs ls' hP hS h')
theorem V.iinc {i : Nat} {n : Int} {x v : Int32} (hd : decode md.2.1 pc = .ok (.iinc i n, 3)) (hl : L.lookup i = some (.int x)) (hv : x + Int32.ofInt n = v) (hn : i < md.2.2.1) (hL : (i, Value.int v) :: lsF L i = L') (hp : pc + 3 = pc') (kk : V md pc' L' st M Q) : V md pc L st M Q := by
  subst hp
  subst hL
  intro p l e s m args below meth c cells slots Z ad D cI hC hE H locs ls hP hS hls
  have hm : ∃ k : Nat, (trL ad L)[k]? = some (i, Value.int x) := by
    have : (i, Value.int x) ∈ L := by
      clear hls hd kk
      induction L with
      | nil => simp at hl
      | cons q t ih =>
        obtain ⟨a, b⟩ := q
        rw [List.lookup_cons] at hl
        by_cases e : i = a
        · subst e
          simp at hl
          subst hl
          exact List.mem_cons_self
        · have e1 : (i == a) = false := by simp [e]
          rw [e1] at hl
          exact List.mem_cons_of_mem _ (ih hl)
    exact List.getElem?_of_mem (List.mem_map.mpr ⟨_, this, rfl⟩)
  obtain ⟨k, hk⟩ := hm
  exact lv_iinc hC.1 hC.2.1 hd hls hk hv hn (by rw [lsF_tr]; rfl) (fun ls' h' => kk p l e s m args below meth c cells slots Z ad D cI hC hE H locs ls' hP hS h')
theorem V.goto {off : Int} (hd : decode md.2.1 pc = .ok (.goto off, 3)) (ht : (pc : Int) + off = (pc' : Int)) (k : V md pc' L st M Q) : V md pc L st M Q := by
  intro p l e s m args below meth c cells slots Z ad D cI hC hE H locs ls hP hS hl
  exact lv_goto hC.1 hC.2.1 hd ht (k p l e s m args below meth c cells slots Z ad D cI hC hE H locs ls hP hS hl)
theorem V.iadd {x y v : Int32} (hd : decode md.2.1 pc = .ok (.iadd, 1)) (hv : x + y = v) (hp : pc + 1 = pc') (k : V md pc' L (.int v :: st) M Q) : V md pc L (.int y :: .int x :: st) M Q := by
  subst hp
  subst hv
  intro p l e s m args below meth c cells slots Z ad D cI hC hE H locs ls hP hS hl
  exact lv_iadd hC.1 hC.2.1 hd (k p l e s m args below meth c cells slots Z ad D cI hC hE H locs ls hP hS hl)
theorem V.isub {x y v : Int32} (hd : decode md.2.1 pc = .ok (.isub, 1)) (hv : x - y = v) (hp : pc + 1 = pc') (k : V md pc' L (.int v :: st) M Q) : V md pc L (.int y :: .int x :: st) M Q := by
  subst hp
  subst hv
  intro p l e s m args below meth c cells slots Z ad D cI hC hE H locs ls hP hS hl
  exact lv_isub hC.1 hC.2.1 hd (k p l e s m args below meth c cells slots Z ad D cI hC hE H locs ls hP hS hl)
theorem V.imul {x y v : Int32} (hd : decode md.2.1 pc = .ok (.imul, 1)) (hv : x * y = v) (hp : pc + 1 = pc') (k : V md pc' L (.int v :: st) M Q) : V md pc L (.int y :: .int x :: st) M Q := by
  subst hp
  subst hv
  intro p l e s m args below meth c cells slots Z ad D cI hC hE H locs ls hP hS hl
  exact lv_imul hC.1 hC.2.1 hd (k p l e s m args below meth c cells slots Z ad D cI hC hE H locs ls hP hS hl)
theorem V.iand {x y v : Int32} (hd : decode md.2.1 pc = .ok (.iand, 1)) (hv : x &&& y = v) (hp : pc + 1 = pc') (k : V md pc' L (.int v :: st) M Q) : V md pc L (.int y :: .int x :: st) M Q := by
  subst hp
  subst hv
  intro p l e s m args below meth c cells slots Z ad D cI hC hE H locs ls hP hS hl
  exact lv_iand hC.1 hC.2.1 hd (k p l e s m args below meth c cells slots Z ad D cI hC hE H locs ls hP hS hl)
theorem V.ior {x y v : Int32} (hd : decode md.2.1 pc = .ok (.ior, 1)) (hv : x ||| y = v) (hp : pc + 1 = pc') (k : V md pc' L (.int v :: st) M Q) : V md pc L (.int y :: .int x :: st) M Q := by
  subst hp
  subst hv
  intro p l e s m args below meth c cells slots Z ad D cI hC hE H locs ls hP hS hl
  exact lv_ior hC.1 hC.2.1 hd (k p l e s m args below meth c cells slots Z ad D cI hC hE H locs ls hP hS hl)
theorem V.ixor {x y v : Int32} (hd : decode md.2.1 pc = .ok (.ixor, 1)) (hv : x ^^^ y = v) (hp : pc + 1 = pc') (k : V md pc' L (.int v :: st) M Q) : V md pc L (.int y :: .int x :: st) M Q := by
  subst hp
  subst hv
  intro p l e s m args below meth c cells slots Z ad D cI hC hE H locs ls hP hS hl
  exact lv_ixor hC.1 hC.2.1 hd (k p l e s m args below meth c cells slots Z ad D cI hC hE H locs ls hP hS hl)
theorem V.idiv {x y v : Int32} (hd : decode md.2.1 pc = .ok (.idiv, 1)) (hne : ¬ y = 0) (hv : x / y = v) (hp : pc + 1 = pc') (k : V md pc' L (.int v :: st) M Q) : V md pc L (.int y :: .int x :: st) M Q := by
  subst hp
  subst hv
  intro p l e s m args below meth c cells slots Z ad D cI hC hE H locs ls hP hS hl
  exact lv_idiv hC.1 hC.2.1 hd hne (k p l e s m args below meth c cells slots Z ad D cI hC hE H locs ls hP hS hl)
theorem V.irem {x y v : Int32} (hd : decode md.2.1 pc = .ok (.irem, 1)) (hne : ¬ y = 0) (hv : x - x / y * y = v) (hp : pc + 1 = pc') (k : V md pc' L (.int v :: st) M Q) : V md pc L (.int y :: .int x :: st) M Q := by
  subst hp
  subst hv
  intro p l e s m args below meth c cells slots Z ad D cI hC hE H locs ls hP hS hl
  exact lv_irem hC.1 hC.2.1 hd hne (k p l e s m args below meth c cells slots Z ad D cI hC hE H locs ls hP hS hl)
theorem V.ladd {x y v : Int64} (hd : decode md.2.1 pc = .ok (.ladd, 1)) (hv : x + y = v) (hp : pc + 1 = pc') (k : V md pc' L (.long v :: st) M Q) : V md pc L (.long y :: .long x :: st) M Q := by
  subst hp
  subst hv
  intro p l e s m args below meth c cells slots Z ad D cI hC hE H locs ls hP hS hl
  exact lv_ladd hC.1 hC.2.1 hd (k p l e s m args below meth c cells slots Z ad D cI hC hE H locs ls hP hS hl)
theorem V.lmul {x y v : Int64} (hd : decode md.2.1 pc = .ok (.lmul, 1)) (hv : x * y = v) (hp : pc + 1 = pc') (k : V md pc' L (.long v :: st) M Q) : V md pc L (.long y :: .long x :: st) M Q := by
  subst hp
  subst hv
  intro p l e s m args below meth c cells slots Z ad D cI hC hE H locs ls hP hS hl
  exact lv_lmul hC.1 hC.2.1 hd (k p l e s m args below meth c cells slots Z ad D cI hC hE H locs ls hP hS hl)
theorem V.lcmp {x y : Int64} (hd : decode md.2.1 pc = .ok (.lcmp, 1)) (hp : pc + 1 = pc') (k : V md pc' L (.int (lg_cmp x y) :: st) M Q) : V md pc L (.long y :: .long x :: st) M Q := by
  subst hp
  intro p l e s m args below meth c cells slots Z ad D cI hC hE H locs ls hP hS hl
  exact W.lcmp hC.1 hC.2.1 hd (k p l e s m args below meth c cells slots Z ad D cI hC hE H locs ls hP hS hl)
theorem V.ineg {x : Int32} {v : Int32} (hd : decode md.2.1 pc = .ok (.ineg, 1)) (hv : -x = v) (hp : pc + 1 = pc') (k : V md pc' L (.int v :: st) M Q) : V md pc L (.int x :: st) M Q := by
  subst hp
  subst hv
  intro p l e s m args below meth c cells slots Z ad D cI hC hE H locs ls hP hS hl
  exact lv_ineg hC.1 hC.2.1 hd (k p l e s m args below meth c cells slots Z ad D cI hC hE H locs ls hP hS hl)
theorem V.i2l {x : Int32} {v : Int64} (hd : decode md.2.1 pc = .ok (.i2l, 1)) (hv : x.toInt64 = v) (hp : pc + 1 = pc') (k : V md pc' L (.long v :: st) M Q) : V md pc L (.int x :: st) M Q := by
  subst hp
  subst hv
  intro p l e s m args below meth c cells slots Z ad D cI hC hE H locs ls hP hS hl
  exact lv_i2l hC.1 hC.2.1 hd rfl (k p l e s m args below meth c cells slots Z ad D cI hC hE H locs ls hP hS hl)
theorem V.i2b {x : Int32} {v : Int32} (hd : decode md.2.1 pc = .ok (.i2b, 1)) (hv : x.toInt8.toInt32 = v) (hp : pc + 1 = pc') (k : V md pc' L (.int v :: st) M Q) : V md pc L (.int x :: st) M Q := by
  subst hp
  subst hv
  intro p l e s m args below meth c cells slots Z ad D cI hC hE H locs ls hP hS hl
  exact lv_i2b hC.1 hC.2.1 hd rfl (k p l e s m args below meth c cells slots Z ad D cI hC hE H locs ls hP hS hl)
theorem V.i2s {x : Int32} {v : Int32} (hd : decode md.2.1 pc = .ok (.i2s, 1)) (hv : x.toInt16.toInt32 = v) (hp : pc + 1 = pc') (k : V md pc' L (.int v :: st) M Q) : V md pc L (.int x :: st) M Q := by
  subst hp
  subst hv
  intro p l e s m args below meth c cells slots Z ad D cI hC hE H locs ls hP hS hl
  exact lv_i2s hC.1 hC.2.1 hd rfl (k p l e s m args below meth c cells slots Z ad D cI hC hE H locs ls hP hS hl)
theorem V.ishl {x y v : Int32} (hd : decode md.2.1 pc = .ok (.ishl, 1)) (hv : x <<< (y &&& 31) = v) (hp : pc + 1 = pc') (k : V md pc' L (.int v :: st) M Q) : V md pc L (.int y :: .int x :: st) M Q := by
  subst hp
  subst hv
  intro p l e s m args below meth c cells slots Z ad D cI hC hE H locs ls hP hS hl
  exact lv_ishl hC.1 hC.2.1 hd (k p l e s m args below meth c cells slots Z ad D cI hC hE H locs ls hP hS hl)
theorem V.ishr {x y v : Int32} (hd : decode md.2.1 pc = .ok (.ishr, 1)) (hv : x >>> (y &&& 31) = v) (hp : pc + 1 = pc') (k : V md pc' L (.int v :: st) M Q) : V md pc L (.int y :: .int x :: st) M Q := by
  subst hp
  subst hv
  intro p l e s m args below meth c cells slots Z ad D cI hC hE H locs ls hP hS hl
  exact lv_ishr hC.1 hC.2.1 hd (k p l e s m args below meth c cells slots Z ad D cI hC hE H locs ls hP hS hl)
theorem V.iushr {x y v : Int32} (hd : decode md.2.1 pc = .ok (.iushr, 1)) (hv : (x.toUInt32 >>> (y.toUInt32 &&& Int32.toUInt32 31)).toInt32 = v) (hp : pc + 1 = pc') (k : V md pc' L (.int v :: st) M Q) : V md pc L (.int y :: .int x :: st) M Q := by
  subst hp
  intro p l e s m args below meth c cells slots Z ad D cI hC hE H locs ls hP hS hl
  exact lv_iushr hC.1 hC.2.1 hd hv (k p l e s m args below meth c cells slots Z ad D cI hC hE H locs ls hP hS hl)
theorem V.dup {v : Value} (hd : decode md.2.1 pc = .ok (.dup, 1)) (hc : v.category = 1) (hp : pc + 1 = pc') (k : V md pc' L (v :: v :: st) M Q) : V md pc L (v :: st) M Q := by
  subst hp
  intro p l e s m args below meth c cells slots Z ad D cI hC hE H locs ls hP hS hl
  exact lv_dup hC.1 hC.2.1 hd (by rw [tr_cat]; exact hc) (k p l e s m args below meth c cells slots Z ad D cI hC hE H locs ls hP hS hl)
theorem V.pop {v : Value} (hd : decode md.2.1 pc = .ok (.pop, 1)) (hc : v.category = 1) (hp : pc + 1 = pc') (k : V md pc' L st M Q) : V md pc L (v :: st) M Q := by
  subst hp
  intro p l e s m args below meth c cells slots Z ad D cI hC hE H locs ls hP hS hl
  exact lv_pop hC.1 hC.2.1 hd (by rw [tr_cat]; exact hc) (k p l e s m args below meth c cells slots Z ad D cI hC hE H locs ls hP hS hl)
theorem V.dup2 {v w : Value} (hd : decode md.2.1 pc = .ok (.dup2, 1)) (hv : v.category = 1) (hw : w.category = 1) (hp : pc + 1 = pc') (k : V md pc' L (v :: w :: v :: w :: st) M Q) : V md pc L (v :: w :: st) M Q := by
  subst hp
  intro p l e s m args below meth c cells slots Z ad D cI hC hE H locs ls hP hS hl
  exact lv_dup2_11 hC.1 hC.2.1 hd (by rw [tr_cat]; exact hv) (by rw [tr_cat]; exact hw) (k p l e s m args below meth c cells slots Z ad D cI hC hE H locs ls hP hS hl)
theorem V.dup_x1 {v w : Value} (hd : decode md.2.1 pc = .ok (.dup_x1, 1)) (hv : v.category = 1) (hw : w.category = 1) (hp : pc + 1 = pc') (k : V md pc' L (v :: w :: v :: st) M Q) : V md pc L (v :: w :: st) M Q := by
  subst hp
  intro p l e s m args below meth c cells slots Z ad D cI hC hE H locs ls hP hS hl
  exact lv_dup_x1 hC.1 hC.2.1 hd (by rw [tr_cat]; exact hv) (by rw [tr_cat]; exact hw) (k p l e s m args below meth c cells slots Z ad D cI hC hE H locs ls hP hS hl)
theorem V.if_eq {x : Int32} {off : Int} {tgt : Nat} (hd : decode md.2.1 pc = .ok (.ifCond .eq off, 3)) (ht : (pc : Int) + off = (tgt : Int)) (hp : pc + 3 = pc') (kt : x = 0 → V md tgt L st M Q) (kf : ¬ x = 0 → V md pc' L st M Q) : V md pc L (.int x :: st) M Q := by
  subst hp
  intro p l e s m args below meth c cells slots Z ad D cI hC hE H locs ls hP hS hl
  exact lv_if_eq hC.1 hC.2.1 hd ht (fun q => kt q p l e s m args below meth c cells slots Z ad D cI hC hE H locs ls hP hS hl) (fun q => kf q p l e s m args below meth c cells slots Z ad D cI hC hE H locs ls hP hS hl)
theorem V.icmp_eq {x y : Int32} {off : Int} {tgt : Nat} (hd : decode md.2.1 pc = .ok (.if_icmp .eq off, 3)) (ht : (pc : Int) + off = (tgt : Int)) (hp : pc + 3 = pc') (kt : x = y → V md tgt L st M Q) (kf : ¬ x = y → V md pc' L st M Q) : V md pc L (.int y :: .int x :: st) M Q := by
  subst hp
  intro p l e s m args below meth c cells slots Z ad D cI hC hE H locs ls hP hS hl
  exact lv_icmp_eq hC.1 hC.2.1 hd ht (fun q => kt q p l e s m args below meth c cells slots Z ad D cI hC hE H locs ls hP hS hl) (fun q => kf q p l e s m args below meth c cells slots Z ad D cI hC hE H locs ls hP hS hl)
theorem V.if_ne {x : Int32} {off : Int} {tgt : Nat} (hd : decode md.2.1 pc = .ok (.ifCond .ne off, 3)) (ht : (pc : Int) + off = (tgt : Int)) (hp : pc + 3 = pc') (kt : ¬ x = 0 → V md tgt L st M Q) (kf : x = 0 → V md pc' L st M Q) : V md pc L (.int x :: st) M Q := by
  subst hp
  intro p l e s m args below meth c cells slots Z ad D cI hC hE H locs ls hP hS hl
  exact lv_if_ne hC.1 hC.2.1 hd ht (fun q => kt q p l e s m args below meth c cells slots Z ad D cI hC hE H locs ls hP hS hl) (fun q => kf q p l e s m args below meth c cells slots Z ad D cI hC hE H locs ls hP hS hl)
theorem V.icmp_ne {x y : Int32} {off : Int} {tgt : Nat} (hd : decode md.2.1 pc = .ok (.if_icmp .ne off, 3)) (ht : (pc : Int) + off = (tgt : Int)) (hp : pc + 3 = pc') (kt : ¬ x = y → V md tgt L st M Q) (kf : x = y → V md pc' L st M Q) : V md pc L (.int y :: .int x :: st) M Q := by
  subst hp
  intro p l e s m args below meth c cells slots Z ad D cI hC hE H locs ls hP hS hl
  exact lv_icmp_ne hC.1 hC.2.1 hd ht (fun q => kt q p l e s m args below meth c cells slots Z ad D cI hC hE H locs ls hP hS hl) (fun q => kf q p l e s m args below meth c cells slots Z ad D cI hC hE H locs ls hP hS hl)
theorem V.if_lt {x : Int32} {off : Int} {tgt : Nat} (hd : decode md.2.1 pc = .ok (.ifCond .lt off, 3)) (ht : (pc : Int) + off = (tgt : Int)) (hp : pc + 3 = pc') (kt : x < 0 → V md tgt L st M Q) (kf : ¬ x < 0 → V md pc' L st M Q) : V md pc L (.int x :: st) M Q := by
  subst hp
  intro p l e s m args below meth c cells slots Z ad D cI hC hE H locs ls hP hS hl
  exact lv_if_lt hC.1 hC.2.1 hd ht (fun q => kt q p l e s m args below meth c cells slots Z ad D cI hC hE H locs ls hP hS hl) (fun q => kf q p l e s m args below meth c cells slots Z ad D cI hC hE H locs ls hP hS hl)
theorem V.icmp_lt {x y : Int32} {off : Int} {tgt : Nat} (hd : decode md.2.1 pc = .ok (.if_icmp .lt off, 3)) (ht : (pc : Int) + off = (tgt : Int)) (hp : pc + 3 = pc') (kt : x < y → V md tgt L st M Q) (kf : ¬ x < y → V md pc' L st M Q) : V md pc L (.int y :: .int x :: st) M Q := by
  subst hp
  intro p l e s m args below meth c cells slots Z ad D cI hC hE H locs ls hP hS hl
  exact lv_icmp_lt hC.1 hC.2.1 hd ht (fun q => kt q p l e s m args below meth c cells slots Z ad D cI hC hE H locs ls hP hS hl) (fun q => kf q p l e s m args below meth c cells slots Z ad D cI hC hE H locs ls hP hS hl)
theorem V.if_ge {x : Int32} {off : Int} {tgt : Nat} (hd : decode md.2.1 pc = .ok (.ifCond .ge off, 3)) (ht : (pc : Int) + off = (tgt : Int)) (hp : pc + 3 = pc') (kt : 0 ≤ x → V md tgt L st M Q) (kf : ¬ 0 ≤ x → V md pc' L st M Q) : V md pc L (.int x :: st) M Q := by
  subst hp
  intro p l e s m args below meth c cells slots Z ad D cI hC hE H locs ls hP hS hl
  exact lv_if_ge hC.1 hC.2.1 hd ht (fun q => kt q p l e s m args below meth c cells slots Z ad D cI hC hE H locs ls hP hS hl) (fun q => kf q p l e s m args below meth c cells slots Z ad D cI hC hE H locs ls hP hS hl)
theorem V.icmp_ge {x y : Int32} {off : Int} {tgt : Nat} (hd : decode md.2.1 pc = .ok (.if_icmp .ge off, 3)) (ht : (pc : Int) + off = (tgt : Int)) (hp : pc + 3 = pc') (kt : y ≤ x → V md tgt L st M Q) (kf : ¬ y ≤ x → V md pc' L st M Q) : V md pc L (.int y :: .int x :: st) M Q := by
  subst hp
  intro p l e s m args below meth c cells slots Z ad D cI hC hE H locs ls hP hS hl
  exact lv_icmp_ge hC.1 hC.2.1 hd ht (fun q => kt q p l e s m args below meth c cells slots Z ad D cI hC hE H locs ls hP hS hl) (fun q => kf q p l e s m args below meth c cells slots Z ad D cI hC hE H locs ls hP hS hl)
theorem V.if_gt {x : Int32} {off : Int} {tgt : Nat} (hd : decode md.2.1 pc = .ok (.ifCond .gt off, 3)) (ht : (pc : Int) + off = (tgt : Int)) (hp : pc + 3 = pc') (kt : 0 < x → V md tgt L st M Q) (kf : ¬ 0 < x → V md pc' L st M Q) : V md pc L (.int x :: st) M Q := by
  subst hp
  intro p l e s m args below meth c cells slots Z ad D cI hC hE H locs ls hP hS hl
  exact lv_if_gt hC.1 hC.2.1 hd ht (fun q => kt q p l e s m args below meth c cells slots Z ad D cI hC hE H locs ls hP hS hl) (fun q => kf q p l e s m args below meth c cells slots Z ad D cI hC hE H locs ls hP hS hl)
theorem V.icmp_gt {x y : Int32} {off : Int} {tgt : Nat} (hd : decode md.2.1 pc = .ok (.if_icmp .gt off, 3)) (ht : (pc : Int) + off = (tgt : Int)) (hp : pc + 3 = pc') (kt : y < x → V md tgt L st M Q) (kf : ¬ y < x → V md pc' L st M Q) : V md pc L (.int y :: .int x :: st) M Q := by
  subst hp
  intro p l e s m args below meth c cells slots Z ad D cI hC hE H locs ls hP hS hl
  exact lv_icmp_gt hC.1 hC.2.1 hd ht (fun q => kt q p l e s m args below meth c cells slots Z ad D cI hC hE H locs ls hP hS hl) (fun q => kf q p l e s m args below meth c cells slots Z ad D cI hC hE H locs ls hP hS hl)
theorem V.if_le {x : Int32} {off : Int} {tgt : Nat} (hd : decode md.2.1 pc = .ok (.ifCond .le off, 3)) (ht : (pc : Int) + off = (tgt : Int)) (hp : pc + 3 = pc') (kt : x ≤ 0 → V md tgt L st M Q) (kf : ¬ x ≤ 0 → V md pc' L st M Q) : V md pc L (.int x :: st) M Q := by
  subst hp
  intro p l e s m args below meth c cells slots Z ad D cI hC hE H locs ls hP hS hl
  exact lv_if_le hC.1 hC.2.1 hd ht (fun q => kt q p l e s m args below meth c cells slots Z ad D cI hC hE H locs ls hP hS hl) (fun q => kf q p l e s m args below meth c cells slots Z ad D cI hC hE H locs ls hP hS hl)
theorem V.icmp_le {x y : Int32} {off : Int} {tgt : Nat} (hd : decode md.2.1 pc = .ok (.if_icmp .le off, 3)) (ht : (pc : Int) + off = (tgt : Int)) (hp : pc + 3 = pc') (kt : x ≤ y → V md tgt L st M Q) (kf : ¬ x ≤ y → V md pc' L st M Q) : V md pc L (.int y :: .int x :: st) M Q := by
  subst hp
  intro p l e s m args below meth c cells slots Z ad D cI hC hE H locs ls hP hS hl
  exact lv_icmp_le hC.1 hC.2.1 hd ht (fun q => kt q p l e s m args below meth c cells slots Z ad D cI hC hE H locs ls hP hS hl) (fun q => kf q p l e s m args below meth c cells slots Z ad D cI hC hE H locs ls hP hS hl)
theorem V.tabIn {dflt lo hi : Int} {offs : Array Int} {len : Nat} {x : Int32} {off : Int} (hd : decode md.2.1 pc = .ok (.tableswitch dflt lo hi offs, len)) (h1 : ¬ x.toInt < lo) (h2 : ¬ hi < x.toInt) (ho : offs[(x.toInt - lo).toNat]? = some off) (ht : (pc : Int) + off = (pc' : Int)) (k : V md pc' L st M Q) : V md pc L (.int x :: st) M Q := by
  intro p l e s m args below meth c cells slots Z ad D cI hC hE H locs ls hP hS hl
  exact lv_tableIn hC.1 hC.2.1 hd h1 h2 ho ht (k p l e s m args below meth c cells slots Z ad D cI hC hE H locs ls hP hS hl)
theorem V.tabOut {dflt lo hi : Int} {offs : Array Int} {len : Nat} {x : Int32} (hd : decode md.2.1 pc = .ok (.tableswitch dflt lo hi offs, len)) (h : x.toInt < lo ∨ hi < x.toInt) (ht : (pc : Int) + dflt = (pc' : Int)) (k : V md pc' L st M Q) : V md pc L (.int x :: st) M Q := by
  intro p l e s m args below meth c cells slots Z ad D cI hC hE H locs ls hP hS hl
  exact lv_tableOut hC.1 hC.2.1 hd h ht (k p l e s m args below meth c cells slots Z ad D cI hC hE H locs ls hP hS hl)
theorem V.lookup {dflt : Int} {ps : Array (Int × Int)} {len : Nat} {x : Int32} {off : Int} (hd : decode md.2.1 pc = .ok (.lookupswitch dflt ps, len)) (hp : (ps.toList.zip (ps.toList.drop 1)).all (fun (a, next) => a.1 < next.1) = true) (ho : Op.lookupswitch.offset ps.toList dflt x.toInt = off) (ht : (pc : Int) + off = (pc' : Int)) (k : V md pc' L st M Q) : V md pc L (.int x :: st) M Q := by
  intro p l e s m args below meth c cells slots Z ad D cI hC hE H locs ls hP hS hl
  exact lv_lookup hC.1 hC.2.1 hd hp ho ht (k p l e s m args below meth c cells slots Z ad D cI hC hE H locs ls hP hS hl)
end VR
/-- what the tables say of a class of the world: its place, its fields -/
def CLS (ci : Nat) (C : String) (T : u_T) (N : Nat) : Prop := vwCl[ci]? = some (C, T, N) ∧ (∀ w ∈ u_ws C T N, w ∈ TBL) ∧ (∃ ty0 : Nat → FieldType, ∀ k, k < N → parseFieldDescriptor (T k).2.2.1 = some (ty0 k)) ∧ ∀ a, a < N → ∀ b, b < N → a ≠ b → (T a).2.1 ≠ (T b).2.1
def FG (own : String) (idx ci j : Nat) : Prop := ∃ (C : String) (T : u_T) (N : Nat), CLS ci C T N ∧ j < N ∧ Cond.fieldLink own idx (T j).1 (T j).2.1 (T j).2.2.1 ∈ TBL
def FP (own : String) (idx ci j : Nat) (ty : FieldType) : Prop := ∃ (C : String) (T : u_T) (N : Nat), CLS ci C T N ∧ j < N ∧ Cond.fieldLink own idx (T j).1 (T j).2.1 (T j).2.2.1 ∈ TBL ∧ (T j).2.2.2 = false ∧ parseFieldDescriptor (T j).2.2.1 = some ty
section VF
variable {md : MD} {pc pc' : Nat} {L : List (Nat × Value)} {st : List Value} {M M' : Mem} {Q : Option Value → Mem → Prop}
theorem V.getr {k ci j r idx : Nat} {fl : List (Option Nat)} (hd : decode md.2.1 pc = .ok (.getfield idx, 3)) (hF : FG md.1.cls idx ci j) (hs : sh k = .inr (ci, fl)) (hf : fl[j]? = some (some r)) (hp : pc + 3 = pc') (kk : V md pc' L (.ref r :: st) M Q) : V md pc L (.ref k :: st) M Q := by
  subst hp
  intro p l e s m args below meth c cells slots Z ad D cI hC hE H locs ls hP hS hl
  obtain ⟨C, T, N, hcl, hj, hlink⟩ := hF
  exact va_get (C := C) (T := T) (N := N) (ci := ci) (D := D) (cl := vwCl) (tys := [(cI, .int)]) (ws := wsOf ad cI M) hC.1 hC.2.1 hC.2.2.2.2.1 hcl.2.1 hC.2.2.2.1 hC.2.2.2.2.2.2.2.1 hP k (ws_obj ad cI M hs) hcl.1 j hj (hC.2.2.2.2.1 _ hlink) (fun _ h9 => h9) (fv_ref hf) hd (kk p l e s m args below meth c cells slots Z ad D cI hC hE H locs ls hP hS hl)
theorem V.geti {k ci j idx : Nat} {fl : List (Option Nat)} {v : Int32} (hd : decode md.2.1 pc = .ok (.getfield idx, 3)) (hF : FG md.1.cls idx ci j) (hs : sh k = .inr (ci, fl)) (hf : fl[j]? = some none) (hv : M k j = v) (hp : pc + 3 = pc') (kk : V md pc' L (.int v :: st) M Q) : V md pc L (.ref k :: st) M Q := by
  subst hp
  intro p l e s m args below meth c cells slots Z ad D cI hC hE H locs ls hP hS hl
  obtain ⟨C, T, N, hcl, hj, hlink⟩ := hF
  exact va_get (C := C) (T := T) (N := N) (ci := ci) (D := D) (cl := vwCl) (tys := [(cI, .int)]) (ws := wsOf ad cI M) hC.1 hC.2.1 hC.2.2.2.2.1 hcl.2.1 hC.2.2.2.1 hC.2.2.2.2.2.2.2.1 hP k (ws_obj ad cI M hs) hcl.1 j hj (hC.2.2.2.2.1 _ hlink) (fun _ h9 => h9) (v := .int v) (by rw [fv_int hf, Nat.zero_add, hv]) hd (kk p l e s m args below meth c cells slots Z ad D cI hC hE H locs ls hP hS hl)
theorem V.puti {k ci j idx : Nat} {fl : List (Option Nat)} {v : Int32} {ty : FieldType} (hd : decode md.2.1 pc = .ok (.putfield idx, 3)) (hF : FP md.1.cls idx ci j ty) (hs : sh k = .inr (ci, fl)) (hf : fl[j]? = some none) (hn : narrow ty (.int v) = .int v) (hfit : fits ty (.int v) = true) (hM : ms M k j v = M') (hp : pc + 3 = pc') (kk : V md pc' L st M' Q) : V md pc L (.int v :: .ref k :: st) M Q := by
  subst hp
  subst hM
  intro p l e s m args below meth c cells slots Z ad D cI hC hE H locs ls hP hS hl
  obtain ⟨C, T, N, hcl, hj, hlink, hfin, hpar⟩ := hF
  obtain ⟨ty0, hty⟩ := hcl.2.2.1
  refine va_put (C := C) (T := T) (N := N) (ci := ci) (D := D) (cl := vwCl) (tys := [(cI, .int)]) (ws := wsOf ad cI M) (v := .int v) hC.1 hC.2.1 hC.2.2.2.2.1 hcl.2.1 ty0 hty hcl.2.2.2 hC.2.2.2.1 hC.2.2.2.2.2.2.2.1 hP (ws_D cI M hC.2.2.2.2.2.2.2.2.1) hS k (ws_obj ad cI M hs) hcl.1 j hj (hC.2.2.2.2.1 _ hlink) (fun _ h9 => h9) hfin hpar hn hfit (by rw [fv_len]; exact (List.getElem?_eq_some_iff.mp hf).1) hd (fun H1 locs1 hP1 hD1 hS1 => ?_)
  rw [ws_setF ad cI M hs hf] at hP1
  exact kk p l e s m args below meth c cells slots Z ad D cI hC hE H1 locs1 ls hP1 hS1 hl
theorem V.iald {k n : Nat} {i v : Int32} (hd : decode md.2.1 pc = .ok (.iaload, 1)) (hs : sh k = .inl n) (hn : 0 < n) (hin : vp_in i n) (hv : M k i.toNatClampNeg = v) (hp : pc + 1 = pc') (kk : V md pc' L (.int v :: st) M Q) : V md pc L (.int i :: .ref k :: st) M Q := by
  subst hp
  subst hv
  intro p l e s m args below meth c cells slots Z ad D cI hC hE H locs ls hP hS hl
  exact va_iald hC.1 hC.2.1 hC.2.2.2.2.2.2.2.1 hP k 0 (ws_arr ad cI M hs hn) rfl hin hd (kk p l e s m args below meth c cells slots Z ad D cI hC hE H locs ls hP hS hl)
theorem V.iast {k n : Nat} {i x : Int32} (hd : decode md.2.1 pc = .ok (.iastore, 1)) (hs : sh k = .inl n) (hn : 0 < n) (hin : vp_in i n) (hM : ms M k i.toNatClampNeg x = M') (hp : pc + 1 = pc') (kk : V md pc' L st M' Q) : V md pc L (.int x :: .int i :: .ref k :: st) M Q := by
  subst hp
  subst hM
  intro p l e s m args below meth c cells slots Z ad D cI hC hE H locs ls hP hS hl
  refine va_iast hC.1 hC.2.1 hC.2.2.2.2.2.2.2.1 hP (ws_D cI M hC.2.2.2.2.2.2.2.2.1) hS k 0 (ws_arr ad cI M hs hn) rfl hin hd (fun H1 locs1 hP1 hD1 hS1 => ?_)
  rw [ws_setA ad cI M hs hn] at hP1
  exact kk p l e s m args below meth c cells slots Z ad D cI hC hE H1 locs1 ls hP1 hS1 hl
/-- the script -/
theorem V.sald {X : Nat × (Nat → Int32)} {i v : Int32} (hX : md.2.2.2.2.2 = some X) (hd : decode md.2.1 pc = .ok (.iaload, 1)) (hin : vp_in i X.1) (hv : X.2 i.toNatClampNeg = v) (hp : pc + 1 = pc') (kk : V md pc' L (.int v :: st) M Q) : V md pc L (.int i :: .ref 99 :: st) M Q := by
  subst hp
  subst hv
  intro p l e s m args below meth c cells slots Z ad D cI hC hE H locs ls hP hS hl
  have hx := hC.2.2.2.2.2.2.2.2.2.2
  rw [hX] at hx
  exact va_sld hC.1 hC.2.1 hx.1 hx.2.1 hx.2.2 hS hin hd (kk p l e s m args below meth c cells slots Z ad D cI hC hE H locs ls hP hS hl)
theorem V.slen {X : Nat × (Nat → Int32)} (hX : md.2.2.2.2.2 = some X) (hd : decode md.2.1 pc = .ok (.arraylength, 1)) (hp : pc + 1 = pc') (kk : V md pc' L (.int (nI X.1) :: st) M Q) : V md pc L (.ref 99 :: st) M Q := by
  subst hp
  intro p l e s m args below meth c cells slots Z ad D cI hC hE H locs ls hP hS hl
  have hx := hC.2.2.2.2.2.2.2.2.2.2
  rw [hX] at hx
  exact va_slen hC.1 hC.2.1 hx.1 hx.2.1 hx.2.2 hS hd (kk p l e s m args below meth c cells slots Z ad D cI hC hE H locs ls hP hS hl)
/-- Strings: their fields, their bytes, the two statics -/
theorem V.gsv {i idx : Nat} (hi : i < 17) (hd : decode md.2.1 pc = .ok (.getfield idx, 3)) (hlink : Cond.fieldLink md.1.cls idx "java/lang/String" "value" "[B" ∈ TBL) (hp : pc + 3 = pc') (kk : V md pc' L (.ref (200 + i) :: st) M Q) : V md pc L (.ref (100 + i) :: st) M Q := by
  subst hp
  intro p l e s m args below meth c cells slots Z ad D cI hC hE H locs ls hP hS hl
  exact vk_getf hC.1 hC.2.1 (hC.2.2.2.2.2.2.2.2.2.1.1.1 i hi).2.2.1 hS hC.2.2.2.1 (hC.2.2.2.2.1 _ hlink) (fun _ h9 => h9) hd (kk p l e s m args below meth c cells slots Z ad D cI hC hE H locs ls hP hS hl)
theorem V.gsc {i idx : Nat} (hi : i < 17) (hd : decode md.2.1 pc = .ok (.getfield idx, 3)) (hlink : Cond.fieldLink md.1.cls idx "java/lang/String" "coder" "B" ∈ TBL) (hp : pc + 3 = pc') (kk : V md pc' L (.int 0 :: st) M Q) : V md pc L (.ref (100 + i) :: st) M Q := by
  subst hp
  intro p l e s m args below meth c cells slots Z ad D cI hC hE H locs ls hP hS hl
  exact vk_getf hC.1 hC.2.1 (hC.2.2.2.2.2.2.2.2.2.1.1.1 i hi).2.1 hS hC.2.2.2.1 (hC.2.2.2.2.1 _ hlink) (fun _ h9 => h9) hd (kk p l e s m args below meth c cells slots Z ad D cI hC hE H locs ls hP hS hl)
theorem V.bald {i : Nat} {j v : Int32} (hi : i < 17) (hd : decode md.2.1 pc = .ok (.baload, 1)) (hin : vp_in j (sLen.getD i 0)) (hv : (sByt.getD i []).getD j.toNatClampNeg 0 = v) (hp : pc + 1 = pc') (kk : V md pc' L (.int v :: st) M Q) : V md pc L (.int j :: .ref (200 + i) :: st) M Q := by
  subst hp
  subst hv
  intro p l e s m args below meth c cells slots Z ad D cI hC hE H locs ls hP hS hl
  exact va_tb hC.1 hC.2.1 (hC.2.2.2.2.2.2.2.2.2.1.1.1 i hi).2.2.2 hS hin rfl hd (kk p l e s m args below meth c cells slots Z ad D cI hC hE H locs ls hP hS hl)
theorem V.blen {i : Nat} {v : Int32} (hi : i < 17) (hd : decode md.2.1 pc = .ok (.arraylength, 1)) (hv : Int32.ofNat (sLen.getD i 0) = v) (hp : pc + 1 = pc') (kk : V md pc' L (.int v :: st) M Q) : V md pc L (.ref (200 + i) :: st) M Q := by
  subst hp
  intro p l e s m args below meth c cells slots Z ad D cI hC hE H locs ls hP hS hl
  exact va_tlen hC.1 hC.2.1 (hC.2.2.2.2.2.2.2.2.2.1.1.1 i hi).2.2.2 hS hv hd (kk p l e s m args below meth c cells slots Z ad D cI hC hE H locs ls hP hS hl)
theorem V.gets {idx : Nat} (hd : decode md.2.1 pc = .ok (.getstatic idx, 3)) (hlink : Cond.fieldLink md.1.cls idx "java/lang/String" "COMPACT_STRINGS" "Z" ∈ TBL) (hp : pc + 3 = pc') (kk : V md pc' L (.int 1 :: st) M Q) : V md pc L st M Q := by
  subst hp
  intro p l e s m args below meth c cells slots Z ad D cI hC hE H locs ls hP hS hl
  exact va_gets hC.1 hC.2.1 hC.2.2.2.2.2.2.2.2.2.1.2.2.1 hS hC.2.2.2.1 (hC.2.2.2.2.1 _ hlink) (fun _ h9 => h9) hd (kk p l e s m args below meth c cells slots Z ad D cI hC hE H locs ls hP hS hl)
theorem V.getf {idx : Nat} (hd : decode md.2.1 pc = .ok (.getstatic idx, 3)) (hlink : Cond.fieldLink md.1.cls idx "jdk/internal/util/Preconditions" "SIOOBE_FORMATTER" "Ljava/util/function/BiFunction;" ∈ TBL) (hp : pc + 3 = pc') (kk : ∀ w : Value, w.category = 1 → V md pc' L (w :: st) M Q) : V md pc L st M Q := by
  subst hp
  intro p l e s m args below meth c cells slots Z ad D cI hC hE H locs ls hP hS hl
  rcases hC.2.2.2.2.2.2.2.2.2.1.2.2.2 with h | h
  · exact va_gets hC.1 hC.2.1 h hS hC.2.2.2.1 (hC.2.2.2.2.1 _ hlink) (fun _ h9 => h9) hd (kk .null rfl p l e s m args below meth c cells slots Z ad D cI hC hE H locs ls hP hS hl)
  · exact va_gets hC.1 hC.2.1 h hS hC.2.2.2.1 (hC.2.2.2.2.1 _ hlink) (fun _ h9 => h9) hd (kk (.ref 98) rfl p l e s m args below meth c cells slots Z ad D cI hC hE H locs ls hP hS hl)
end VF
/-- what the tables say of a method that is called -/
def MO (md : MD) (n : Nat) : Prop := md.2.2.2.2.2 = none ∧ plainName md.1.cls = true ∧ md.2.2.2.2.1.cells = 0 ∧ md.2.2.2.2.1.slots = 0 ∧ Cond.code md.1 md.2.1 md.2.2.1 md.2.2.2.1 ∈ TBL ∧ Cond.initialized md.1.cls ∈ TBL ∧ (md.1.cls ≠ "java/lang/invoke/MethodHandle" ∧ md.1.cls ≠ "java/lang/invoke/VarHandle") ∧ (parseMethodDescriptor md.1.desc).map (fun d => d.parameters.length) = some n
def MOV (md : MD) (n : Nat) : Prop := MO md n ∧ Cond.instanceMethod md.1 ∈ TBL ∧ Cond.selects md.1.cls md.1 md.1 ∈ TBL
def MOS (md : MD) (n : Nat) : Prop := MO md n ∧ Cond.static md.1 ∈ TBL
/-- room for a call -/
def RM (md md' : MD) : Prop := md'.2.2.2.2.1.frames + 1 ≤ md.2.2.2.2.1.frames ∧ 8 + (md'.2.2.1 + 11) + md'.2.2.2.2.1.locals ≤ md.2.2.2.2.1.locals
def QM (ad : Nat → Nat) (D : va_G) (cI : ClassId) (Q : Option Value → Mem → Prop) : Array Value → State → Outcome → State → Prop := fun _ st oc t => (∃ (rv : Option Value) (M' : Mem), oc = .returned (rv.map (tr ad)) ∧ Q rv M' ∧ va_P D vwCl (wsOf ad cI M') t.heap) ∧ va_F (AA ad) st t
theorem SX.kept {ad : Nat → Nat} {U : State} {H H1 : Heap} (h : SX ad U H) (hq : ∀ a : Nat, a < H.size → ¬ AA ad a → H1[a]? = H[a]?) : SX ad U H1 :=
  ⟨h.1.kept hq, h.2.1, h.2.2.1.kept hq, h.2.2.2.elim (fun z => Or.inl (z.kept hq)) (fun z => Or.inr (z.kept hq))⟩
theorem SX.warm {ad : Nat → Nat} {s U : State} {H : Heap} (hW : s.WarmedH U.vm) (h : SX ad s H) : SX ad U H :=
  ⟨h.1.moved hW.alike, fun i hi => (h.2.1 i hi).warm hW, h.2.2.1.moved hW.alike, h.2.2.2.elim (fun z => Or.inl (z.moved hW.alike)) (fun z => Or.inr (z.moved hW.alike))⟩
theorem SX.same {ad : Nat → Nat} {u U : State} {H : Heap} (hv : U.vm = u.vm) (h : SX ad u H) : SX ad U H :=
  ⟨h.1.moved (by rw [hv]; exact Vm.Alike.refl u.vm), fun i hi => (h.2.1 i hi).same hv, h.2.2.1.moved (by rw [hv]; exact Vm.Alike.refl u.vm), h.2.2.2.elim (fun z => Or.inl (z.moved (by rw [hv]; exact Vm.Alike.refl u.vm))) (fun z => Or.inr (z.moved (by rw [hv]; exact Vm.Alike.refl u.vm)))⟩
theorem met_V {md : MD} {n : Nat} (hO : MO md n) {As : List Value} {M : Mem} {Q : Option Value → Mem → Prop} (hlen : (lg_sl As).length ≤ md.2.2.1) (h : V md 0 (lv_args 0 As) [] M Q) (l : Launch) (ad : Nat → Nat) (D : va_G) (cI : ClassId) :
    Met l md.1 (Cond.code md.1 md.2.1 md.2.2.1 md.2.2.2.1 :: TBL) md.2.2.2.2.1 (va_Pc (As.map (tr ad)) (PU ad D cI M)) (QM ad D cI Q) 0 0 (AA ad) := by
  obtain ⟨hX, hpn, hc0, hs0, -⟩ := hO
  refine Met.ofW (cc := md.2.1) (maxL := md.2.2.1) (ret := md.2.2.2.1) hpn rfl ?_
  intro p e s m args below meth c s₁ B hml hv
  obtain ⟨rfl, hP, hK, hI, hSX⟩ := hv
  have hts := atoms_spec (ws := Cond.code md.1 md.2.1 md.2.2.1 md.2.2.2.1 :: TBL) B.pre
  have hown : s.vm.findClass md.1.cls = some m.cls := findClass_of_methodNamed B.named
  have hr := B.returns
  have hlocks := B.notSynchronized
  have hl := lv_entry (As.map (tr ad)) (n := md.2.2.1) (by rw [lg_sl_tr]; exact hlen)
  rw [lv_args_tr] at hl
  rw [lg_entry_eq]
  refine h p l e s m _ below meth c 0 0 _ ad D cI ⟨B.exec, B.bytes, hml, hown, fun w hw => hts w (List.mem_cons_of_mem _ hw), Nat.zero_le _, Nat.zero_le _, hK, hI, hSX, by rw [hX]; trivial⟩ ?_ s.heap [] _ hP va_S.rf hl
  intro rv M' H' locs' pc' ls' hret hq hP' hS'
  have done : ∀ t : State, t.heap = H' → (∃ (rv1 : Option Value) (M1 : Mem), Outcome.returned (rv.map (tr ad)) = .returned (rv1.map (tr ad)) ∧ Q rv1 M1 ∧ va_P D vwCl (wsOf ad cI M1) t.heap) ∧ va_F (AA ad) s t := fun t ht => ⟨⟨rv, M', rfl, hq, by rw [ht]; exact hP'⟩, hS'.F ht⟩
  match rv, hret, done with
  | none, hret, done => exact W.vret B.exec B.bytes (by rw [hr]; exact hret.2) (fun t ht hW => done t ht) hS'.2.2 hret.1
  | some (.int v), hret, done =>
    obtain ⟨h1, ty, h2, h3⟩ := hret
    exact W.zret B.exec B.bytes (by rw [hr]; exact h2) h3 (fun t ht hW => done t ht) hS'.2.2 h1
  | some (.long v), hret, done => exact W.lret B.exec B.bytes (by rw [hr]; exact hret.2) (fun t ht hW => done t ht) hS'.2.2 hret.1
theorem blind_PU {ad : Nat → Nat} {D : va_G} {cI : ClassId} {M : Mem} {As : List Value} : FrameBlind (va_Pc As (PU ad D cI M)) := fun a U g mk q => by
  obtain ⟨q0, qP, qK, qI, qS⟩ := q
  exact ⟨q0, qP, va_K.moved (u := U) (U := U.calling g mk a) (Vm.Alike.refl U.vm) qK, qI, SX.same rfl qS⟩
section VC
variable {md md' : MD} {pc pc' n idx : Nat} {L : List (Nat × Value)} {As st rest : List Value} {M : Mem} {Q Q' : Option Value → Mem → Prop}
theorem callB_V {s : State} {args : Array Value} (hO : MO md' n) (hR : RM md md') (hts : ∀ w ∈ TBL, w.before args s = true) (hlink : Cond.methodLink md.1.cls idx md'.1 ∈ TBL) : CallB md.2.2.2.2.1 s args md.1.cls idx md'.1 md'.2.1 md'.2.2.1 md'.2.2.2.1 (Cond.code md'.1 md'.2.1 md'.2.2.1 md'.2.2.2.1 :: TBL) md'.2.2.2.2.1 0 0 n := by
  obtain ⟨-, -, hc0, hs0, hcode, hini, hnm, hdsc⟩ := hO
  have hG : GoodIn TBL (Cond.code md'.1 md'.2.1 md'.2.2.1 md'.2.2.2.1 :: TBL) := fun w hw => by
    rcases List.mem_cons.mp hw with rfl | h
    · exact ⟨hcode, tbl_good _ hcode⟩
    · exact ⟨h, tbl_good _ h⟩
  refine ⟨hc0, hs0, hR.1, hR.2, pay_in hts hG, List.mem_cons_self, hts _ hcode, hts _ hini, hnm, fun sig h => ?_, hts _ hlink⟩
  rw [h] at hdsc
  exact (Option.some.inj hdsc).symm
theorem V.after {p : Program} {l : Launch} {e : Env} {s : State} {m : MethodId} {args : Array Value} {below : List Frame} {meth : Method} {c : Code} {cells slots : Nat} {Z : State → Prop} {ad : Nat → Nat} {D : va_G} {cI : ClassId} {a : Array Value}
    (hC : CX md p s m args meth c cells slots ad D cI) (hE : EN md p l e s m args below meth c cells slots Z ad D cI Q) {H : Heap} {locs : List Loc} {ls : Array Slot} (hS : va_S (AA ad) s.heap H locs) (hl : lv_has ls md.2.2.1 (trL ad L)) {st0 : List Value}
    (hr : va_Run p l e md.2.2.2.2.1 s m args below meth c H locs cells slots 0 0 (F0 m pc ls st0) (rest.map (tr ad)) (QM ad D cI Q' a) (AA ad))
    (kk : ∀ rv M', Q' rv M' → V md (pc + 3) L (rv.toList ++ rest) M' Q) : W p l e md.2.2.2.2.1 s m args below meth c H locs cells slots Z (F0 m pc ls st0) := by
  intro T hT X
  obtain ⟨v, st₀, t, T', Lc, h0, X', hLc, e1, e2, ⟨⟨rv, M', hv, hq, hP'⟩, hz, hk⟩, go⟩ := hr T hT X
  rw [h0] at hz hk
  have hv' : v = rv.map (tr ad) := Outcome.returned.inj hv
  subst hv'
  have hS' : va_S (AA ad) s.heap T'.heap (locs ++ Lc) := ⟨Nat.le_trans hS.1 (by rw [e1]; exact hz), fun q h1 h2 => by rw [e1, hk q (Nat.lt_of_lt_of_le h1 hS.1) h2]; exact hS.2.1 q h1 h2, fun q hq => by
      rcases List.mem_append.mp hq with h | h
      · exact hS.2.2 q h
      · exact hLc q h⟩
  obtain ⟨t2, a1, b1⟩ := kk rv M' hq p l e s m args below meth c cells slots Z ad D cI hC hE T'.heap (locs ++ Lc) ls (by rw [e1]; exact hP') hS' hl T' rfl X'
  refine ⟨t2, go t2 ?_, b1⟩
  have e3 : (rv.toList ++ rest).map (tr ad) = (rv.map (tr ad)).toList ++ rest.map (tr ad) := by cases rv <;> simp
  rw [e3] at a1
  exact a1
theorem pu_of {p : Program} {s : State} {m : MethodId} {args : Array Value} {meth : Method} {c : Code} {cells slots : Nat} {ad : Nat → Nat} {D : va_G} {cI : ClassId} (hC : CX md p s m args meth c cells slots ad D cI) {H : Heap} {locs : List Loc} (hP : va_P D vwCl (wsOf ad cI M) H) (hS : va_S (AA ad) s.heap H locs) : ∀ U : State, U.heap = H → s.WarmedH U.vm → PU ad D cI M U := by
  intro U hU hW
  refine ⟨by rw [hU]; exact hP, va_K.moved hW.alike hC.2.2.2.2.2.2.2.1, hC.2.2.2.2.2.2.2.2.1, ?_⟩
  rw [hU]
  exact SX.warm hW (hC.2.2.2.2.2.2.2.2.2.1.kept hS.2.1)
theorem V.callv {k ci : Nat} {fl : List (Option Nat)} (hd : decode md.2.1 pc = .ok (.invokevirtual idx, 3)) (hlink : Cond.methodLink md.1.cls idx md'.1 ∈ TBL) (hO : MOV md' n) (hR : RM md md') (hs : sh k = .inr (ci, fl)) (hc : ∃ T N, vwCl[ci]? = some (md'.1.cls, T, N)) (hlen : (lg_sl (.ref k :: As)).length ≤ md'.2.2.1) (hn : As.length = n) (hst : st = As.reverse ++ .ref k :: rest) (hw : (rest.map fun v => v.category).sum ≤ 8)
    (h : V md' 0 (lv_args 0 (.ref k :: As)) [] M Q') (kk : ∀ rv M', Q' rv M' → V md (pc + 3) L (rv.toList ++ rest) M' Q) : V md pc L st M Q := by
  subst hst
  intro p l e s m args below meth c cells slots Z ad D cI hC hE H locs ls hP hS hl
  obtain ⟨hO, hin, hse⟩ := hO
  obtain ⟨T, N, hcl⟩ := hc
  refine V.after hC hE hS hl (a := (Value.ref (ad k) :: As.map (tr ad)).toArray) ?_ kk
  exact va_runV (own := md.1.cls) (C := md'.1.cls) (Ts := TBL) (nL := md.2.2.1) (cc := md.2.1) (b := ad k) (As := As.map (tr ad)) ⟨hC.1, hC.2.1, hC.2.2.1, hC.2.2.2.1, hC.2.2.2.2.1⟩ (met_V hO hlen h l ad D cI) ⟨callB_V hO hR hC.2.2.2.2.1 hlink, hC.2.2.2.2.1 _ hin, hC.2.2.2.2.1 _ hse⟩
    ⟨blind_PU, va_recv hC.2.2.2.2.2.2.2.1 hP (q0 := k) hcl (ws_obj ad cI M hs), fun U hU hW => ⟨rfl, pu_of hC hP hS U hU hW⟩⟩ rfl (by rw [List.length_map]; exact hn) hl.1 (by simp [tr]) (lv_room (by rw [tr_sum]; exact hw)) hd ⟨hC.2.2.2.2.2.1, hC.2.2.2.2.2.2.1⟩
theorem V.callS {i : Nat} (hi : i < 17) (hd : decode md.2.1 pc = .ok (.invokevirtual idx, 3)) (hlink : Cond.methodLink md.1.cls idx md'.1 ∈ TBL) (hO : MOV md' n) (hR : RM md md') (hc : md'.1.cls = "java/lang/String") (hlen : (lg_sl (.ref (100 + i) :: As)).length ≤ md'.2.2.1) (hn : As.length = n) (hst : st = As.reverse ++ .ref (100 + i) :: rest) (hw : (rest.map fun v => v.category).sum ≤ 8)
    (h : V md' 0 (lv_args 0 (.ref (100 + i) :: As)) [] M Q') (kk : ∀ rv M', Q' rv M' → V md (pc + 3) L (rv.toList ++ rest) M' Q) : V md pc L st M Q := by
  subst hst
  intro p l e s m args below meth c cells slots Z ad D cI hC hE H locs ls hP hS hl
  obtain ⟨hO, hin, hse⟩ := hO
  refine V.after hC hE hS hl (a := (Value.ref (ad (100 + i)) :: As.map (tr ad)).toArray) ?_ kk
  exact va_runV (own := md.1.cls) (C := md'.1.cls) (Ts := TBL) (nL := md.2.2.1) (cc := md.2.1) (b := ad (100 + i)) (As := As.map (tr ad)) ⟨hC.1, hC.2.1, hC.2.2.1, hC.2.2.2.1, hC.2.2.2.2.1⟩ (met_V hO hlen h l ad D cI) ⟨callB_V hO hR hC.2.2.2.2.1 hlink, hC.2.2.2.2.1 _ hin, hC.2.2.2.2.1 _ hse⟩
    ⟨blind_PU, by rw [hc]; exact vk_recv (i := i) hC.2.2.2.2.2.2.2.2.2.1.1 hi hS, fun U hU hW => ⟨rfl, pu_of hC hP hS U hU hW⟩⟩ rfl (by rw [List.length_map]; exact hn) hl.1 (by simp [tr]) (lv_room (by rw [tr_sum]; exact hw)) hd ⟨hC.2.2.2.2.2.1, hC.2.2.2.2.2.2.1⟩
theorem V.calls (hd : decode md.2.1 pc = .ok (.invokestatic idx, 3)) (hlink : Cond.methodLink md.1.cls idx md'.1 ∈ TBL) (hO : MOS md' n) (hR : RM md md') (hlen : (lg_sl As).length ≤ md'.2.2.1) (hn : As.length = n) (hst : st = As.reverse ++ rest) (hw : (rest.map fun v => v.category).sum ≤ 8)
    (h : V md' 0 (lv_args 0 As) [] M Q') (kk : ∀ rv M', Q' rv M' → V md (pc + 3) L (rv.toList ++ rest) M' Q) : V md pc L st M Q := by
  subst hst
  intro p l e s m args below meth c cells slots Z ad D cI hC hE H locs ls hP hS hl
  obtain ⟨hO, hsta⟩ := hO
  refine V.after hC hE hS hl (a := (As.map (tr ad)).toArray) ?_ kk
  exact va_runS (own := md.1.cls) (Ts := TBL) (nL := md.2.2.1) (cc := md.2.1) (As := As.map (tr ad)) ⟨hC.1, hC.2.1, hC.2.2.1, hC.2.2.2.1, hC.2.2.2.2.1⟩ (met_V hO hlen h l ad D cI) ⟨callB_V hO hR hC.2.2.2.2.1 hlink, hC.2.2.2.2.1 _ hsta⟩
    ⟨blind_PU, fun U hU hW => ⟨rfl, pu_of hC hP hS U hU hW⟩⟩ rfl (by rw [List.length_map]; exact hn) hl.1 (by simp) (lv_room (by rw [tr_sum]; exact hw)) hd ⟨hC.2.2.2.2.2.1, hC.2.2.2.2.2.2.1⟩
end VC
end
