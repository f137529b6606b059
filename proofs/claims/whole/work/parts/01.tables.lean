-- ===== PART A: goes FIRST, ahead of the names: the tables' words, and 'selects' of the private methods out of them =====
/-- a private method of a class that the tables say can be made, by its rows of tables_1 -/
def lw_okq (q : MethodName × Nat) : Prop := (q.1.cls ≠ "java/lang/invoke/MethodHandle" ∧ q.1.cls ≠ "java/lang/invoke/VarHandle") ∧ Cond.instantiable q.1.cls q.2 ∈ tables_1 ∧ Cond.privateMethod q.1 ∈ tables_1 ∧ Cond.instanceMethod q.1 ∈ tables_1
theorem lw_p0 : lw_okq (⟨"SpentWeeks", "found", "(I)I"⟩, 14) := ⟨⟨by decide +kernel, by decide +kernel⟩, List.mem_of_getElem? (i := 14) (by decide +kernel), List.mem_of_getElem? (i := 313) (by decide +kernel), List.mem_of_getElem? (i := 314) (by decide +kernel)⟩
theorem lw_p1 : lw_okq (⟨"SpentWeeks", "fine", "(I)I"⟩, 14) := ⟨⟨by decide +kernel, by decide +kernel⟩, List.mem_of_getElem? (i := 14) (by decide +kernel), List.mem_of_getElem? (i := 322) (by decide +kernel), List.mem_of_getElem? (i := 323) (by decide +kernel)⟩
theorem lw_p2 : lw_okq (⟨"SpentWeeks$Tape", "readLaw", "(LSpentWeeks$County;)Z"⟩, 6) := ⟨⟨by decide +kernel, by decide +kernel⟩, List.mem_of_getElem? (i := 43) (by decide +kernel), List.mem_of_getElem? (i := 383) (by decide +kernel), List.mem_of_getElem? (i := 384) (by decide +kernel)⟩
theorem lw_p3 : lw_okq (⟨"SpentWeeks$Tape", "readByte", "(I)Z"⟩, 6) := ⟨⟨by decide +kernel, by decide +kernel⟩, List.mem_of_getElem? (i := 43) (by decide +kernel), List.mem_of_getElem? (i := 387) (by decide +kernel), List.mem_of_getElem? (i := 388) (by decide +kernel)⟩
theorem lw_p4 : lw_okq (⟨"SpentWeeks$Tape", "nextByte", "()I"⟩, 6) := ⟨⟨by decide +kernel, by decide +kernel⟩, List.mem_of_getElem? (i := 43) (by decide +kernel), List.mem_of_getElem? (i := 391) (by decide +kernel), List.mem_of_getElem? (i := 392) (by decide +kernel)⟩
theorem lw_p5 : lw_okq (⟨"SpentWeeks$Tape", "fails", "(I)Z"⟩, 6) := ⟨⟨by decide +kernel, by decide +kernel⟩, List.mem_of_getElem? (i := 43) (by decide +kernel), List.mem_of_getElem? (i := 395) (by decide +kernel), List.mem_of_getElem? (i := 396) (by decide +kernel)⟩
theorem lw_p6 : lw_okq (⟨"SpentWeeks$Tape", "readNumber", "(II)Z"⟩, 6) := ⟨⟨by decide +kernel, by decide +kernel⟩, List.mem_of_getElem? (i := 43) (by decide +kernel), List.mem_of_getElem? (i := 399) (by decide +kernel), List.mem_of_getElem? (i := 400) (by decide +kernel)⟩
theorem lw_p7 : lw_okq (⟨"SpentWeeks$Tape", "readPerson", "(LSpentWeeks$County;)Z"⟩, 6) := ⟨⟨by decide +kernel, by decide +kernel⟩, List.mem_of_getElem? (i := 43) (by decide +kernel), List.mem_of_getElem? (i := 404) (by decide +kernel), List.mem_of_getElem? (i := 405) (by decide +kernel)⟩
theorem lw_p8 : lw_okq (⟨"SpentWeeks", "isPerson", "(I)Z"⟩, 14) := ⟨⟨by decide +kernel, by decide +kernel⟩, List.mem_of_getElem? (i := 14) (by decide +kernel), List.mem_of_getElem? (i := 438) (by decide +kernel), List.mem_of_getElem? (i := 439) (by decide +kernel)⟩
theorem lw_p9 : lw_okq (⟨"SpentWeeks$Person", "dropEmptyLots", "()V"⟩, 10) := ⟨⟨by decide +kernel, by decide +kernel⟩, List.mem_of_getElem? (i := 85) (by decide +kernel), List.mem_of_getElem? (i := 476) (by decide +kernel), List.mem_of_getElem? (i := 477) (by decide +kernel)⟩
theorem lw_p10 : lw_okq (⟨"SpentWeeks", "isSale", "(IIII)Z"⟩, 14) := ⟨⟨by decide +kernel, by decide +kernel⟩, List.mem_of_getElem? (i := 14) (by decide +kernel), List.mem_of_getElem? (i := 484) (by decide +kernel), List.mem_of_getElem? (i := 485) (by decide +kernel)⟩
theorem lw_p11 : lw_okq (⟨"SpentWeeks$County", "drawFor", "(LSpentWeeks$Person;I)I"⟩, 5) := ⟨⟨by decide +kernel, by decide +kernel⟩, List.mem_of_getElem? (i := 78) (by decide +kernel), List.mem_of_getElem? (i := 530) (by decide +kernel), List.mem_of_getElem? (i := 531) (by decide +kernel)⟩
theorem lw_p12 : lw_okq (⟨"SpentWeeks$County", "endMonth", "()V"⟩, 5) := ⟨⟨by decide +kernel, by decide +kernel⟩, List.mem_of_getElem? (i := 78) (by decide +kernel), List.mem_of_getElem? (i := 536) (by decide +kernel), List.mem_of_getElem? (i := 537) (by decide +kernel)⟩
theorem lw_p13 : lw_okq (⟨"SpentWeeks$Person", "lapses", "(III)Z"⟩, 10) := ⟨⟨by decide +kernel, by decide +kernel⟩, List.mem_of_getElem? (i := 85) (by decide +kernel), List.mem_of_getElem? (i := 544) (by decide +kernel), List.mem_of_getElem? (i := 545) (by decide +kernel)⟩
theorem lw_p14 : lw_okq (⟨"SpentWeeks", "refusalOfTold", "(IIIII)I"⟩, 14) := ⟨⟨by decide +kernel, by decide +kernel⟩, List.mem_of_getElem? (i := 14) (by decide +kernel), List.mem_of_getElem? (i := 590) (by decide +kernel), List.mem_of_getElem? (i := 591) (by decide +kernel)⟩
theorem lw_p15 : lw_okq (⟨"SpentWeeks$Deeds", "covers", "(LSpentWeeks$Person;I)Z"⟩, 8) := ⟨⟨by decide +kernel, by decide +kernel⟩, List.mem_of_getElem? (i := 196) (by decide +kernel), List.mem_of_getElem? (i := 608) (by decide +kernel), List.mem_of_getElem? (i := 609) (by decide +kernel)⟩
def lw_privs_1 : List (MethodName × Nat) := [(⟨"SpentWeeks", "found", "(I)I"⟩, 14), (⟨"SpentWeeks", "fine", "(I)I"⟩, 14), (⟨"SpentWeeks$Tape", "readLaw", "(LSpentWeeks$County;)Z"⟩, 6), (⟨"SpentWeeks$Tape", "readByte", "(I)Z"⟩, 6), (⟨"SpentWeeks$Tape", "nextByte", "()I"⟩, 6), (⟨"SpentWeeks$Tape", "fails", "(I)Z"⟩, 6), (⟨"SpentWeeks$Tape", "readNumber", "(II)Z"⟩, 6), (⟨"SpentWeeks$Tape", "readPerson", "(LSpentWeeks$County;)Z"⟩, 6), (⟨"SpentWeeks", "isPerson", "(I)Z"⟩, 14), (⟨"SpentWeeks$Person", "dropEmptyLots", "()V"⟩, 10), (⟨"SpentWeeks", "isSale", "(IIII)Z"⟩, 14), (⟨"SpentWeeks$County", "drawFor", "(LSpentWeeks$Person;I)I"⟩, 5), (⟨"SpentWeeks$County", "endMonth", "()V"⟩, 5), (⟨"SpentWeeks$Person", "lapses", "(III)Z"⟩, 10), (⟨"SpentWeeks", "refusalOfTold", "(IIIII)I"⟩, 14), (⟨"SpentWeeks$Deeds", "covers", "(LSpentWeeks$Person;I)Z"⟩, 8)]
theorem lw_r1 : ∀ q ∈ lw_privs_1, lw_okq q := List.forall_mem_cons.mpr ⟨lw_p0, List.forall_mem_cons.mpr ⟨lw_p1, List.forall_mem_cons.mpr ⟨lw_p2, List.forall_mem_cons.mpr ⟨lw_p3, List.forall_mem_cons.mpr ⟨lw_p4, List.forall_mem_cons.mpr ⟨lw_p5, List.forall_mem_cons.mpr ⟨lw_p6, List.forall_mem_cons.mpr ⟨lw_p7, List.forall_mem_cons.mpr ⟨lw_p8, List.forall_mem_cons.mpr ⟨lw_p9, List.forall_mem_cons.mpr ⟨lw_p10, List.forall_mem_cons.mpr ⟨lw_p11, List.forall_mem_cons.mpr ⟨lw_p12, List.forall_mem_cons.mpr ⟨lw_p13, List.forall_mem_cons.mpr ⟨lw_p14, List.forall_mem_cons.mpr ⟨lw_p15, fun _ h => absurd h List.not_mem_nil⟩⟩⟩⟩⟩⟩⟩⟩⟩⟩⟩⟩⟩⟩⟩⟩
theorem lw_p16 : lw_okq (⟨"SpentWeeks$Deeds", "tryOrders", "(II)V"⟩, 8) := ⟨⟨by decide +kernel, by decide +kernel⟩, List.mem_of_getElem? (i := 196) (by decide +kernel), List.mem_of_getElem? (i := 625) (by decide +kernel), List.mem_of_getElem? (i := 626) (by decide +kernel)⟩
theorem lw_p17 : lw_okq (⟨"SpentWeeks$Deeds", "keepIfBetter", "()V"⟩, 8) := ⟨⟨by decide +kernel, by decide +kernel⟩, List.mem_of_getElem? (i := 196) (by decide +kernel), List.mem_of_getElem? (i := 629) (by decide +kernel), List.mem_of_getElem? (i := 630) (by decide +kernel)⟩
theorem lw_p18 : lw_okq (⟨"SpentWeeks$County", "offerAt", "(LSpentWeeks$Person;I)I"⟩, 5) := ⟨⟨by decide +kernel, by decide +kernel⟩, List.mem_of_getElem? (i := 78) (by decide +kernel), List.mem_of_getElem? (i := 641) (by decide +kernel), List.mem_of_getElem? (i := 642) (by decide +kernel)⟩
theorem lw_p19 : lw_okq (⟨"SpentWeeks$County", "wantAt", "(LSpentWeeks$Person;I)I"⟩, 5) := ⟨⟨by decide +kernel, by decide +kernel⟩, List.mem_of_getElem? (i := 78) (by decide +kernel), List.mem_of_getElem? (i := 649) (by decide +kernel), List.mem_of_getElem? (i := 650) (by decide +kernel)⟩
theorem lw_p20 : lw_okq (⟨"SpentWeeks$Sets", "sortLow", "([II)V"⟩, 5) := ⟨⟨by decide +kernel, by decide +kernel⟩, List.mem_of_getElem? (i := 231) (by decide +kernel), List.mem_of_getElem? (i := 713) (by decide +kernel), List.mem_of_getElem? (i := 714) (by decide +kernel)⟩
theorem lw_p21 : lw_okq (⟨"SpentWeeks$Sets", "mergeWith", "(II)V"⟩, 5) := ⟨⟨by decide +kernel, by decide +kernel⟩, List.mem_of_getElem? (i := 231) (by decide +kernel), List.mem_of_getElem? (i := 717) (by decide +kernel), List.mem_of_getElem? (i := 718) (by decide +kernel)⟩
theorem lw_p22 : lw_okq (⟨"SpentWeeks$Sets", "sumHigh", "([III)V"⟩, 5) := ⟨⟨by decide +kernel, by decide +kernel⟩, List.mem_of_getElem? (i := 231) (by decide +kernel), List.mem_of_getElem? (i := 722) (by decide +kernel), List.mem_of_getElem? (i := 723) (by decide +kernel)⟩
theorem lw_p23 : lw_okq (⟨"SpentWeeks$Sets", "match", "(III)V"⟩, 5) := ⟨⟨by decide +kernel, by decide +kernel⟩, List.mem_of_getElem? (i := 231) (by decide +kernel), List.mem_of_getElem? (i := 726) (by decide +kernel), List.mem_of_getElem? (i := 727) (by decide +kernel)⟩
theorem lw_p24 : lw_okq (⟨"SpentWeeks$Sets", "placeOf", "(II)I"⟩, 5) := ⟨⟨by decide +kernel, by decide +kernel⟩, List.mem_of_getElem? (i := 231) (by decide +kernel), List.mem_of_getElem? (i := 730) (by decide +kernel), List.mem_of_getElem? (i := 731) (by decide +kernel)⟩
theorem lw_p25 : lw_okq (⟨"SpentWeeks$Asks", "sizeOfCitizen", "(LSpentWeeks$Person;I)I"⟩, 2) := ⟨⟨by decide +kernel, by decide +kernel⟩, List.mem_of_getElem? (i := 181) (by decide +kernel), List.mem_of_getElem? (i := 760) (by decide +kernel), List.mem_of_getElem? (i := 761) (by decide +kernel)⟩
theorem lw_p26 : lw_okq (⟨"SpentWeeks$Asks", "begin", "(I)V"⟩, 2) := ⟨⟨by decide +kernel, by decide +kernel⟩, List.mem_of_getElem? (i := 181) (by decide +kernel), List.mem_of_getElem? (i := 764) (by decide +kernel), List.mem_of_getElem? (i := 765) (by decide +kernel)⟩
theorem lw_p27 : lw_okq (⟨"SpentWeeks$Asks", "sizeOfAny", "(LSpentWeeks$Person;)I"⟩, 2) := ⟨⟨by decide +kernel, by decide +kernel⟩, List.mem_of_getElem? (i := 181) (by decide +kernel), List.mem_of_getElem? (i := 768) (by decide +kernel), List.mem_of_getElem? (i := 769) (by decide +kernel)⟩
theorem lw_p28 : lw_okq (⟨"SpentWeeks$Asks", "markOfCitizen", "(LSpentWeeks$Person;)I"⟩, 2) := ⟨⟨by decide +kernel, by decide +kernel⟩, List.mem_of_getElem? (i := 181) (by decide +kernel), List.mem_of_getElem? (i := 777) (by decide +kernel), List.mem_of_getElem? (i := 778) (by decide +kernel)⟩
theorem lw_p29 : lw_okq (⟨"SpentWeeks$Asks", "markOfAny", "(LSpentWeeks$Person;)I"⟩, 2) := ⟨⟨by decide +kernel, by decide +kernel⟩, List.mem_of_getElem? (i := 181) (by decide +kernel), List.mem_of_getElem? (i := 781) (by decide +kernel), List.mem_of_getElem? (i := 782) (by decide +kernel)⟩
theorem lw_p30 : lw_okq (⟨"SpentWeeks$Asks", "markOfSaint", "(LSpentWeeks$Person;)I"⟩, 2) := ⟨⟨by decide +kernel, by decide +kernel⟩, List.mem_of_getElem? (i := 181) (by decide +kernel), List.mem_of_getElem? (i := 785) (by decide +kernel), List.mem_of_getElem? (i := 786) (by decide +kernel)⟩
theorem lw_p31 : lw_okq (⟨"SpentWeeks$Asks", "markOfHeir", "(LSpentWeeks$Person;)I"⟩, 2) := ⟨⟨by decide +kernel, by decide +kernel⟩, List.mem_of_getElem? (i := 181) (by decide +kernel), List.mem_of_getElem? (i := 789) (by decide +kernel), List.mem_of_getElem? (i := 790) (by decide +kernel)⟩
def lw_privs_2 : List (MethodName × Nat) := [(⟨"SpentWeeks$Deeds", "tryOrders", "(II)V"⟩, 8), (⟨"SpentWeeks$Deeds", "keepIfBetter", "()V"⟩, 8), (⟨"SpentWeeks$County", "offerAt", "(LSpentWeeks$Person;I)I"⟩, 5), (⟨"SpentWeeks$County", "wantAt", "(LSpentWeeks$Person;I)I"⟩, 5), (⟨"SpentWeeks$Sets", "sortLow", "([II)V"⟩, 5), (⟨"SpentWeeks$Sets", "mergeWith", "(II)V"⟩, 5), (⟨"SpentWeeks$Sets", "sumHigh", "([III)V"⟩, 5), (⟨"SpentWeeks$Sets", "match", "(III)V"⟩, 5), (⟨"SpentWeeks$Sets", "placeOf", "(II)I"⟩, 5), (⟨"SpentWeeks$Asks", "sizeOfCitizen", "(LSpentWeeks$Person;I)I"⟩, 2), (⟨"SpentWeeks$Asks", "begin", "(I)V"⟩, 2), (⟨"SpentWeeks$Asks", "sizeOfAny", "(LSpentWeeks$Person;)I"⟩, 2), (⟨"SpentWeeks$Asks", "markOfCitizen", "(LSpentWeeks$Person;)I"⟩, 2), (⟨"SpentWeeks$Asks", "markOfAny", "(LSpentWeeks$Person;)I"⟩, 2), (⟨"SpentWeeks$Asks", "markOfSaint", "(LSpentWeeks$Person;)I"⟩, 2), (⟨"SpentWeeks$Asks", "markOfHeir", "(LSpentWeeks$Person;)I"⟩, 2)]
theorem lw_r2 : ∀ q ∈ lw_privs_2, lw_okq q := List.forall_mem_cons.mpr ⟨lw_p16, List.forall_mem_cons.mpr ⟨lw_p17, List.forall_mem_cons.mpr ⟨lw_p18, List.forall_mem_cons.mpr ⟨lw_p19, List.forall_mem_cons.mpr ⟨lw_p20, List.forall_mem_cons.mpr ⟨lw_p21, List.forall_mem_cons.mpr ⟨lw_p22, List.forall_mem_cons.mpr ⟨lw_p23, List.forall_mem_cons.mpr ⟨lw_p24, List.forall_mem_cons.mpr ⟨lw_p25, List.forall_mem_cons.mpr ⟨lw_p26, List.forall_mem_cons.mpr ⟨lw_p27, List.forall_mem_cons.mpr ⟨lw_p28, List.forall_mem_cons.mpr ⟨lw_p29, List.forall_mem_cons.mpr ⟨lw_p30, List.forall_mem_cons.mpr ⟨lw_p31, fun _ h => absurd h List.not_mem_nil⟩⟩⟩⟩⟩⟩⟩⟩⟩⟩⟩⟩⟩⟩⟩⟩
theorem lw_p32 : lw_okq (⟨"SpentWeeks$Asks", "markOfThief", "(LSpentWeeks$Person;I)I"⟩, 2) := ⟨⟨by decide +kernel, by decide +kernel⟩, List.mem_of_getElem? (i := 181) (by decide +kernel), List.mem_of_getElem? (i := 793) (by decide +kernel), List.mem_of_getElem? (i := 794) (by decide +kernel)⟩
theorem lw_p33 : lw_okq (⟨"SpentWeeks$Asks", "sizeOfSaint", "(LSpentWeeks$Person;I)I"⟩, 2) := ⟨⟨by decide +kernel, by decide +kernel⟩, List.mem_of_getElem? (i := 181) (by decide +kernel), List.mem_of_getElem? (i := 798) (by decide +kernel), List.mem_of_getElem? (i := 799) (by decide +kernel)⟩
theorem lw_p34 : lw_okq (⟨"SpentWeeks$Asks", "sizeOfThief", "(LSpentWeeks$Person;)I"⟩, 2) := ⟨⟨by decide +kernel, by decide +kernel⟩, List.mem_of_getElem? (i := 181) (by decide +kernel), List.mem_of_getElem? (i := 802) (by decide +kernel), List.mem_of_getElem? (i := 803) (by decide +kernel)⟩
theorem lw_p35 : lw_okq (⟨"SpentWeeks$Asks", "sizeOfPardoned", "(LSpentWeeks$Person;)I"⟩, 2) := ⟨⟨by decide +kernel, by decide +kernel⟩, List.mem_of_getElem? (i := 181) (by decide +kernel), List.mem_of_getElem? (i := 806) (by decide +kernel), List.mem_of_getElem? (i := 807) (by decide +kernel)⟩
theorem lw_p36 : lw_okq (⟨"SpentWeeksModel", "find", "(I)I"⟩, 20) := ⟨⟨by decide +kernel, by decide +kernel⟩, List.mem_of_getElem? (i := 831) (by decide +kernel), List.mem_of_getElem? (i := 912) (by decide +kernel), List.mem_of_getElem? (i := 913) (by decide +kernel)⟩
theorem lw_p37 : lw_okq (⟨"SpentWeeksModel", "give", "(I)I"⟩, 20) := ⟨⟨by decide +kernel, by decide +kernel⟩, List.mem_of_getElem? (i := 831) (by decide +kernel), List.mem_of_getElem? (i := 917) (by decide +kernel), List.mem_of_getElem? (i := 918) (by decide +kernel)⟩
theorem lw_p38 : lw_okq (⟨"SpentWeeksModel", "isSpan", "(III)Z"⟩, 20) := ⟨⟨by decide +kernel, by decide +kernel⟩, List.mem_of_getElem? (i := 831) (by decide +kernel), List.mem_of_getElem? (i := 929) (by decide +kernel), List.mem_of_getElem? (i := 930) (by decide +kernel)⟩
theorem lw_p39 : lw_okq (⟨"SpentWeeksModel", "readsAll", "()Z"⟩, 20) := ⟨⟨by decide +kernel, by decide +kernel⟩, List.mem_of_getElem? (i := 831) (by decide +kernel), List.mem_of_getElem? (i := 947) (by decide +kernel), List.mem_of_getElem? (i := 948) (by decide +kernel)⟩
theorem lw_p40 : lw_okq (⟨"SpentWeeksModel", "readsLaw", "()Z"⟩, 20) := ⟨⟨by decide +kernel, by decide +kernel⟩, List.mem_of_getElem? (i := 831) (by decide +kernel), List.mem_of_getElem? (i := 951) (by decide +kernel), List.mem_of_getElem? (i := 952) (by decide +kernel)⟩
theorem lw_p41 : lw_okq (⟨"SpentWeeksModel", "reads", "(I)Z"⟩, 20) := ⟨⟨by decide +kernel, by decide +kernel⟩, List.mem_of_getElem? (i := 831) (by decide +kernel), List.mem_of_getElem? (i := 955) (by decide +kernel), List.mem_of_getElem? (i := 956) (by decide +kernel)⟩
theorem lw_p42 : lw_okq (⟨"SpentWeeksModel", "number", "(II)I"⟩, 20) := ⟨⟨by decide +kernel, by decide +kernel⟩, List.mem_of_getElem? (i := 831) (by decide +kernel), List.mem_of_getElem? (i := 959) (by decide +kernel), List.mem_of_getElem? (i := 960) (by decide +kernel)⟩
theorem lw_p43 : lw_okq (⟨"SpentWeeksModel", "readsPerson", "()Z"⟩, 20) := ⟨⟨by decide +kernel, by decide +kernel⟩, List.mem_of_getElem? (i := 831) (by decide +kernel), List.mem_of_getElem? (i := 966) (by decide +kernel), List.mem_of_getElem? (i := 967) (by decide +kernel)⟩
theorem lw_p44 : lw_okq (⟨"SpentWeeksModel", "kindHere", "()I"⟩, 20) := ⟨⟨by decide +kernel, by decide +kernel⟩, List.mem_of_getElem? (i := 831) (by decide +kernel), List.mem_of_getElem? (i := 970) (by decide +kernel), List.mem_of_getElem? (i := 971) (by decide +kernel)⟩
theorem lw_p45 : lw_okq (⟨"SpentWeeksModel", "isOne", "(I)Z"⟩, 20) := ⟨⟨by decide +kernel, by decide +kernel⟩, List.mem_of_getElem? (i := 831) (by decide +kernel), List.mem_of_getElem? (i := 988) (by decide +kernel), List.mem_of_getElem? (i := 989) (by decide +kernel)⟩
theorem lw_p46 : lw_okq (⟨"SpentWeeksModel", "unspent", "(II)I"⟩, 20) := ⟨⟨by decide +kernel, by decide +kernel⟩, List.mem_of_getElem? (i := 831) (by decide +kernel), List.mem_of_getElem? (i := 993) (by decide +kernel), List.mem_of_getElem? (i := 994) (by decide +kernel)⟩
theorem lw_p47 : lw_okq (⟨"SpentWeeksModel", "keepPast", "()V"⟩, 20) := ⟨⟨by decide +kernel, by decide +kernel⟩, List.mem_of_getElem? (i := 831) (by decide +kernel), List.mem_of_getElem? (i := 1000) (by decide +kernel), List.mem_of_getElem? (i := 1001) (by decide +kernel)⟩
def lw_privs_3 : List (MethodName × Nat) := [(⟨"SpentWeeks$Asks", "markOfThief", "(LSpentWeeks$Person;I)I"⟩, 2), (⟨"SpentWeeks$Asks", "sizeOfSaint", "(LSpentWeeks$Person;I)I"⟩, 2), (⟨"SpentWeeks$Asks", "sizeOfThief", "(LSpentWeeks$Person;)I"⟩, 2), (⟨"SpentWeeks$Asks", "sizeOfPardoned", "(LSpentWeeks$Person;)I"⟩, 2), (⟨"SpentWeeksModel", "find", "(I)I"⟩, 20), (⟨"SpentWeeksModel", "give", "(I)I"⟩, 20), (⟨"SpentWeeksModel", "isSpan", "(III)Z"⟩, 20), (⟨"SpentWeeksModel", "readsAll", "()Z"⟩, 20), (⟨"SpentWeeksModel", "readsLaw", "()Z"⟩, 20), (⟨"SpentWeeksModel", "reads", "(I)Z"⟩, 20), (⟨"SpentWeeksModel", "number", "(II)I"⟩, 20), (⟨"SpentWeeksModel", "readsPerson", "()Z"⟩, 20), (⟨"SpentWeeksModel", "kindHere", "()I"⟩, 20), (⟨"SpentWeeksModel", "isOne", "(I)Z"⟩, 20), (⟨"SpentWeeksModel", "unspent", "(II)I"⟩, 20), (⟨"SpentWeeksModel", "keepPast", "()V"⟩, 20)]
theorem lw_r3 : ∀ q ∈ lw_privs_3, lw_okq q := List.forall_mem_cons.mpr ⟨lw_p32, List.forall_mem_cons.mpr ⟨lw_p33, List.forall_mem_cons.mpr ⟨lw_p34, List.forall_mem_cons.mpr ⟨lw_p35, List.forall_mem_cons.mpr ⟨lw_p36, List.forall_mem_cons.mpr ⟨lw_p37, List.forall_mem_cons.mpr ⟨lw_p38, List.forall_mem_cons.mpr ⟨lw_p39, List.forall_mem_cons.mpr ⟨lw_p40, List.forall_mem_cons.mpr ⟨lw_p41, List.forall_mem_cons.mpr ⟨lw_p42, List.forall_mem_cons.mpr ⟨lw_p43, List.forall_mem_cons.mpr ⟨lw_p44, List.forall_mem_cons.mpr ⟨lw_p45, List.forall_mem_cons.mpr ⟨lw_p46, List.forall_mem_cons.mpr ⟨lw_p47, fun _ h => absurd h List.not_mem_nil⟩⟩⟩⟩⟩⟩⟩⟩⟩⟩⟩⟩⟩⟩⟩⟩
theorem lw_p48 : lw_okq (⟨"SpentWeeksModel", "come", "(III)V"⟩, 20) := ⟨⟨by decide +kernel, by decide +kernel⟩, List.mem_of_getElem? (i := 831) (by decide +kernel), List.mem_of_getElem? (i := 1004) (by decide +kernel), List.mem_of_getElem? (i := 1005) (by decide +kernel)⟩
theorem lw_p49 : lw_okq (⟨"SpentWeeksModel", "doDeed", "(III)V"⟩, 20) := ⟨⟨by decide +kernel, by decide +kernel⟩, List.mem_of_getElem? (i := 831) (by decide +kernel), List.mem_of_getElem? (i := 1012) (by decide +kernel), List.mem_of_getElem? (i := 1013) (by decide +kernel)⟩
theorem lw_p50 : lw_okq (⟨"SpentWeeksModel", "spend", "(III)V"⟩, 20) := ⟨⟨by decide +kernel, by decide +kernel⟩, List.mem_of_getElem? (i := 831) (by decide +kernel), List.mem_of_getElem? (i := 1016) (by decide +kernel), List.mem_of_getElem? (i := 1017) (by decide +kernel)⟩
theorem lw_p51 : lw_okq (⟨"SpentWeeksModel", "kindOf", "(I)I"⟩, 20) := ⟨⟨by decide +kernel, by decide +kernel⟩, List.mem_of_getElem? (i := 831) (by decide +kernel), List.mem_of_getElem? (i := 1020) (by decide +kernel), List.mem_of_getElem? (i := 1021) (by decide +kernel)⟩
theorem lw_p52 : lw_okq (⟨"SpentWeeksModel", "closeUp", "(II)V"⟩, 20) := ⟨⟨by decide +kernel, by decide +kernel⟩, List.mem_of_getElem? (i := 831) (by decide +kernel), List.mem_of_getElem? (i := 1024) (by decide +kernel), List.mem_of_getElem? (i := 1025) (by decide +kernel)⟩
theorem lw_p53 : lw_okq (⟨"SpentWeeksModel", "canBeAsked", "(IIII)Z"⟩, 20) := ⟨⟨by decide +kernel, by decide +kernel⟩, List.mem_of_getElem? (i := 831) (by decide +kernel), List.mem_of_getElem? (i := 1032) (by decide +kernel), List.mem_of_getElem? (i := 1033) (by decide +kernel)⟩
theorem lw_p54 : lw_okq (⟨"SpentWeeksModel", "refusedSale", "(IIII)I"⟩, 20) := ⟨⟨by decide +kernel, by decide +kernel⟩, List.mem_of_getElem? (i := 831) (by decide +kernel), List.mem_of_getElem? (i := 1036) (by decide +kernel), List.mem_of_getElem? (i := 1037) (by decide +kernel)⟩
theorem lw_p55 : lw_okq (⟨"SpentWeeksModel", "sell", "(IIIII)V"⟩, 20) := ⟨⟨by decide +kernel, by decide +kernel⟩, List.mem_of_getElem? (i := 831) (by decide +kernel), List.mem_of_getElem? (i := 1040) (by decide +kernel), List.mem_of_getElem? (i := 1041) (by decide +kernel)⟩
theorem lw_p56 : lw_okq (⟨"SpentWeeksModel", "monthBy", "(I)V"⟩, 20) := ⟨⟨by decide +kernel, by decide +kernel⟩, List.mem_of_getElem? (i := 831) (by decide +kernel), List.mem_of_getElem? (i := 1064) (by decide +kernel), List.mem_of_getElem? (i := 1065) (by decide +kernel)⟩
theorem lw_p57 : lw_okq (⟨"SpentWeeksModel", "endMonth", "(I)V"⟩, 20) := ⟨⟨by decide +kernel, by decide +kernel⟩, List.mem_of_getElem? (i := 831) (by decide +kernel), List.mem_of_getElem? (i := 1071) (by decide +kernel), List.mem_of_getElem? (i := 1072) (by decide +kernel)⟩
theorem lw_p58 : lw_okq (⟨"SpentWeeksModel", "copyRow", "(II)V"⟩, 20) := ⟨⟨by decide +kernel, by decide +kernel⟩, List.mem_of_getElem? (i := 831) (by decide +kernel), List.mem_of_getElem? (i := 1089) (by decide +kernel), List.mem_of_getElem? (i := 1090) (by decide +kernel)⟩
theorem lw_p59 : lw_okq (⟨"SpentWeeksModel", "owesAll", "(I)I"⟩, 20) := ⟨⟨by decide +kernel, by decide +kernel⟩, List.mem_of_getElem? (i := 831) (by decide +kernel), List.mem_of_getElem? (i := 1101) (by decide +kernel), List.mem_of_getElem? (i := 1102) (by decide +kernel)⟩
theorem lw_p60 : lw_okq (⟨"SpentWeeksModel", "refusedWeights", "(III)I"⟩, 20) := ⟨⟨by decide +kernel, by decide +kernel⟩, List.mem_of_getElem? (i := 831) (by decide +kernel), List.mem_of_getElem? (i := 1110) (by decide +kernel), List.mem_of_getElem? (i := 1111) (by decide +kernel)⟩
theorem lw_p61 : lw_okq (⟨"SpentWeeksModel", "refused", "(III)I"⟩, 20) := ⟨⟨by decide +kernel, by decide +kernel⟩, List.mem_of_getElem? (i := 831) (by decide +kernel), List.mem_of_getElem? (i := 1114) (by decide +kernel), List.mem_of_getElem? (i := 1115) (by decide +kernel)⟩
theorem lw_p62 : lw_okq (⟨"SpentWeeksModel", "areWeights", "(II)Z"⟩, 20) := ⟨⟨by decide +kernel, by decide +kernel⟩, List.mem_of_getElem? (i := 831) (by decide +kernel), List.mem_of_getElem? (i := 1118) (by decide +kernel), List.mem_of_getElem? (i := 1119) (by decide +kernel)⟩
theorem lw_p63 : lw_okq (⟨"SpentWeeksModel", "layPlain", "()V"⟩, 20) := ⟨⟨by decide +kernel, by decide +kernel⟩, List.mem_of_getElem? (i := 831) (by decide +kernel), List.mem_of_getElem? (i := 1122) (by decide +kernel), List.mem_of_getElem? (i := 1123) (by decide +kernel)⟩
def lw_privs_4 : List (MethodName × Nat) := [(⟨"SpentWeeksModel", "come", "(III)V"⟩, 20), (⟨"SpentWeeksModel", "doDeed", "(III)V"⟩, 20), (⟨"SpentWeeksModel", "spend", "(III)V"⟩, 20), (⟨"SpentWeeksModel", "kindOf", "(I)I"⟩, 20), (⟨"SpentWeeksModel", "closeUp", "(II)V"⟩, 20), (⟨"SpentWeeksModel", "canBeAsked", "(IIII)Z"⟩, 20), (⟨"SpentWeeksModel", "refusedSale", "(IIII)I"⟩, 20), (⟨"SpentWeeksModel", "sell", "(IIIII)V"⟩, 20), (⟨"SpentWeeksModel", "monthBy", "(I)V"⟩, 20), (⟨"SpentWeeksModel", "endMonth", "(I)V"⟩, 20), (⟨"SpentWeeksModel", "copyRow", "(II)V"⟩, 20), (⟨"SpentWeeksModel", "owesAll", "(I)I"⟩, 20), (⟨"SpentWeeksModel", "refusedWeights", "(III)I"⟩, 20), (⟨"SpentWeeksModel", "refused", "(III)I"⟩, 20), (⟨"SpentWeeksModel", "areWeights", "(II)Z"⟩, 20), (⟨"SpentWeeksModel", "layPlain", "()V"⟩, 20)]
theorem lw_r4 : ∀ q ∈ lw_privs_4, lw_okq q := List.forall_mem_cons.mpr ⟨lw_p48, List.forall_mem_cons.mpr ⟨lw_p49, List.forall_mem_cons.mpr ⟨lw_p50, List.forall_mem_cons.mpr ⟨lw_p51, List.forall_mem_cons.mpr ⟨lw_p52, List.forall_mem_cons.mpr ⟨lw_p53, List.forall_mem_cons.mpr ⟨lw_p54, List.forall_mem_cons.mpr ⟨lw_p55, List.forall_mem_cons.mpr ⟨lw_p56, List.forall_mem_cons.mpr ⟨lw_p57, List.forall_mem_cons.mpr ⟨lw_p58, List.forall_mem_cons.mpr ⟨lw_p59, List.forall_mem_cons.mpr ⟨lw_p60, List.forall_mem_cons.mpr ⟨lw_p61, List.forall_mem_cons.mpr ⟨lw_p62, List.forall_mem_cons.mpr ⟨lw_p63, fun _ h => absurd h List.not_mem_nil⟩⟩⟩⟩⟩⟩⟩⟩⟩⟩⟩⟩⟩⟩⟩⟩
theorem lw_p64 : lw_okq (⟨"SpentWeeksModel", "owesBehind", "(IIII)I"⟩, 20) := ⟨⟨by decide +kernel, by decide +kernel⟩, List.mem_of_getElem? (i := 831) (by decide +kernel), List.mem_of_getElem? (i := 1126) (by decide +kernel), List.mem_of_getElem? (i := 1127) (by decide +kernel)⟩
theorem lw_p65 : lw_okq (⟨"SpentWeeksModel", "layOrder", "(II)V"⟩, 20) := ⟨⟨by decide +kernel, by decide +kernel⟩, List.mem_of_getElem? (i := 831) (by decide +kernel), List.mem_of_getElem? (i := 1139) (by decide +kernel), List.mem_of_getElem? (i := 1140) (by decide +kernel)⟩
theorem lw_p66 : lw_okq (⟨"SpentWeeksModel", "supply", "(I)I"⟩, 20) := ⟨⟨by decide +kernel, by decide +kernel⟩, List.mem_of_getElem? (i := 831) (by decide +kernel), List.mem_of_getElem? (i := 1151) (by decide +kernel), List.mem_of_getElem? (i := 1152) (by decide +kernel)⟩
theorem lw_p67 : lw_okq (⟨"SpentWeeksModel", "sellsAt", "(II)Z"⟩, 20) := ⟨⟨by decide +kernel, by decide +kernel⟩, List.mem_of_getElem? (i := 831) (by decide +kernel), List.mem_of_getElem? (i := 1155) (by decide +kernel), List.mem_of_getElem? (i := 1156) (by decide +kernel)⟩
theorem lw_p68 : lw_okq (⟨"SpentWeeksModel", "demand", "(I)I"⟩, 20) := ⟨⟨by decide +kernel, by decide +kernel⟩, List.mem_of_getElem? (i := 831) (by decide +kernel), List.mem_of_getElem? (i := 1159) (by decide +kernel), List.mem_of_getElem? (i := 1160) (by decide +kernel)⟩
theorem lw_p69 : lw_okq (⟨"SpentWeeksModel", "buysAt", "(II)Z"⟩, 20) := ⟨⟨by decide +kernel, by decide +kernel⟩, List.mem_of_getElem? (i := 831) (by decide +kernel), List.mem_of_getElem? (i := 1163) (by decide +kernel), List.mem_of_getElem? (i := 1164) (by decide +kernel)⟩
theorem lw_p70 : lw_okq (⟨"SpentWeeksModel", "areSales", "(II)Z"⟩, 20) := ⟨⟨by decide +kernel, by decide +kernel⟩, List.mem_of_getElem? (i := 831) (by decide +kernel), List.mem_of_getElem? (i := 1176) (by decide +kernel), List.mem_of_getElem? (i := 1177) (by decide +kernel)⟩
theorem lw_p71 : lw_okq (⟨"SpentWeeksModel", "wealth", "(II)I"⟩, 20) := ⟨⟨by decide +kernel, by decide +kernel⟩, List.mem_of_getElem? (i := 831) (by decide +kernel), List.mem_of_getElem? (i := 1180) (by decide +kernel), List.mem_of_getElem? (i := 1181) (by decide +kernel)⟩
theorem lw_p72 : lw_okq (⟨"SpentWeeksModel", "areTold", "(I)Z"⟩, 20) := ⟨⟨by decide +kernel, by decide +kernel⟩, List.mem_of_getElem? (i := 831) (by decide +kernel), List.mem_of_getElem? (i := 1188) (by decide +kernel), List.mem_of_getElem? (i := 1189) (by decide +kernel)⟩
theorem lw_p73 : lw_okq (⟨"SpentWeeksModel", "sizeOfCitizen", "(I)I"⟩, 20) := ⟨⟨by decide +kernel, by decide +kernel⟩, List.mem_of_getElem? (i := 831) (by decide +kernel), List.mem_of_getElem? (i := 1222) (by decide +kernel), List.mem_of_getElem? (i := 1223) (by decide +kernel)⟩
theorem lw_p74 : lw_okq (⟨"SpentWeeksModel", "citizenBody", "(I)I"⟩, 20) := ⟨⟨by decide +kernel, by decide +kernel⟩, List.mem_of_getElem? (i := 831) (by decide +kernel), List.mem_of_getElem? (i := 1226) (by decide +kernel), List.mem_of_getElem? (i := 1227) (by decide +kernel)⟩
theorem lw_p75 : lw_okq (⟨"SpentWeeksModel", "leave", "(I)V"⟩, 20) := ⟨⟨by decide +kernel, by decide +kernel⟩, List.mem_of_getElem? (i := 831) (by decide +kernel), List.mem_of_getElem? (i := 1230) (by decide +kernel), List.mem_of_getElem? (i := 1231) (by decide +kernel)⟩
theorem lw_p76 : lw_okq (⟨"SpentWeeksModel", "daysBody", "(I)I"⟩, 20) := ⟨⟨by decide +kernel, by decide +kernel⟩, List.mem_of_getElem? (i := 831) (by decide +kernel), List.mem_of_getElem? (i := 1234) (by decide +kernel), List.mem_of_getElem? (i := 1235) (by decide +kernel)⟩
theorem lw_p77 : lw_okq (⟨"SpentWeeksModel", "markOfCitizen", "(I)I"⟩, 20) := ⟨⟨by decide +kernel, by decide +kernel⟩, List.mem_of_getElem? (i := 831) (by decide +kernel), List.mem_of_getElem? (i := 1238) (by decide +kernel), List.mem_of_getElem? (i := 1239) (by decide +kernel)⟩
theorem lw_p78 : lw_okq (⟨"SpentWeeksModel", "lotsBody", "(I)I"⟩, 20) := ⟨⟨by decide +kernel, by decide +kernel⟩, List.mem_of_getElem? (i := 831) (by decide +kernel), List.mem_of_getElem? (i := 1242) (by decide +kernel), List.mem_of_getElem? (i := 1243) (by decide +kernel)⟩
theorem lw_p79 : lw_okq (⟨"SpentWeeksModel", "numberBody", "(I)I"⟩, 20) := ⟨⟨by decide +kernel, by decide +kernel⟩, List.mem_of_getElem? (i := 831) (by decide +kernel), List.mem_of_getElem? (i := 1246) (by decide +kernel), List.mem_of_getElem? (i := 1247) (by decide +kernel)⟩
def lw_privs_5 : List (MethodName × Nat) := [(⟨"SpentWeeksModel", "owesBehind", "(IIII)I"⟩, 20), (⟨"SpentWeeksModel", "layOrder", "(II)V"⟩, 20), (⟨"SpentWeeksModel", "supply", "(I)I"⟩, 20), (⟨"SpentWeeksModel", "sellsAt", "(II)Z"⟩, 20), (⟨"SpentWeeksModel", "demand", "(I)I"⟩, 20), (⟨"SpentWeeksModel", "buysAt", "(II)Z"⟩, 20), (⟨"SpentWeeksModel", "areSales", "(II)Z"⟩, 20), (⟨"SpentWeeksModel", "wealth", "(II)I"⟩, 20), (⟨"SpentWeeksModel", "areTold", "(I)Z"⟩, 20), (⟨"SpentWeeksModel", "sizeOfCitizen", "(I)I"⟩, 20), (⟨"SpentWeeksModel", "citizenBody", "(I)I"⟩, 20), (⟨"SpentWeeksModel", "leave", "(I)V"⟩, 20), (⟨"SpentWeeksModel", "daysBody", "(I)I"⟩, 20), (⟨"SpentWeeksModel", "markOfCitizen", "(I)I"⟩, 20), (⟨"SpentWeeksModel", "lotsBody", "(I)I"⟩, 20), (⟨"SpentWeeksModel", "numberBody", "(I)I"⟩, 20)]
theorem lw_r5 : ∀ q ∈ lw_privs_5, lw_okq q := List.forall_mem_cons.mpr ⟨lw_p64, List.forall_mem_cons.mpr ⟨lw_p65, List.forall_mem_cons.mpr ⟨lw_p66, List.forall_mem_cons.mpr ⟨lw_p67, List.forall_mem_cons.mpr ⟨lw_p68, List.forall_mem_cons.mpr ⟨lw_p69, List.forall_mem_cons.mpr ⟨lw_p70, List.forall_mem_cons.mpr ⟨lw_p71, List.forall_mem_cons.mpr ⟨lw_p72, List.forall_mem_cons.mpr ⟨lw_p73, List.forall_mem_cons.mpr ⟨lw_p74, List.forall_mem_cons.mpr ⟨lw_p75, List.forall_mem_cons.mpr ⟨lw_p76, List.forall_mem_cons.mpr ⟨lw_p77, List.forall_mem_cons.mpr ⟨lw_p78, List.forall_mem_cons.mpr ⟨lw_p79, fun _ h => absurd h List.not_mem_nil⟩⟩⟩⟩⟩⟩⟩⟩⟩⟩⟩⟩⟩⟩⟩⟩
theorem lw_p80 : lw_okq (⟨"SpentWeeksModel", "sizeOfThief", "(I)I"⟩, 20) := ⟨⟨by decide +kernel, by decide +kernel⟩, List.mem_of_getElem? (i := 831) (by decide +kernel), List.mem_of_getElem? (i := 1250) (by decide +kernel), List.mem_of_getElem? (i := 1251) (by decide +kernel)⟩
theorem lw_p81 : lw_okq (⟨"SpentWeeksModel", "thiefBody", "(I)I"⟩, 20) := ⟨⟨by decide +kernel, by decide +kernel⟩, List.mem_of_getElem? (i := 831) (by decide +kernel), List.mem_of_getElem? (i := 1254) (by decide +kernel), List.mem_of_getElem? (i := 1255) (by decide +kernel)⟩
theorem lw_p82 : lw_okq (⟨"SpentWeeksModel", "markOfThief", "(I)I"⟩, 20) := ⟨⟨by decide +kernel, by decide +kernel⟩, List.mem_of_getElem? (i := 831) (by decide +kernel), List.mem_of_getElem? (i := 1258) (by decide +kernel), List.mem_of_getElem? (i := 1259) (by decide +kernel)⟩
def lw_privs_6 : List (MethodName × Nat) := [(⟨"SpentWeeksModel", "sizeOfThief", "(I)I"⟩, 20), (⟨"SpentWeeksModel", "thiefBody", "(I)I"⟩, 20), (⟨"SpentWeeksModel", "markOfThief", "(I)I"⟩, 20)]
theorem lw_r6 : ∀ q ∈ lw_privs_6, lw_okq q := List.forall_mem_cons.mpr ⟨lw_p80, List.forall_mem_cons.mpr ⟨lw_p81, List.forall_mem_cons.mpr ⟨lw_p82, fun _ h => absurd h List.not_mem_nil⟩⟩⟩
def lw_privs : List (MethodName × Nat) := lw_privs_1 ++ (lw_privs_2 ++ (lw_privs_3 ++ (lw_privs_4 ++ (lw_privs_5 ++ (lw_privs_6)))))
def lw_tbl : List Cond := k2_sels lw_privs ++ tables_1
theorem lw_privs_ok : ∀ q ∈ lw_privs, lw_okq q := by
  show ∀ q ∈ lw_privs_1 ++ (lw_privs_2 ++ (lw_privs_3 ++ (lw_privs_4 ++ (lw_privs_5 ++ (lw_privs_6))))), lw_okq q
  exact List.forall_mem_append.mpr ⟨lw_r1, List.forall_mem_append.mpr ⟨lw_r2, List.forall_mem_append.mpr ⟨lw_r3, List.forall_mem_append.mpr ⟨lw_r4, List.forall_mem_append.mpr ⟨lw_r5, lw_r6⟩⟩⟩⟩⟩
def RX0 : String := "SpentWeeks$Acts"
def TX0 : u_T := fun k => match k with
  | 0 => ("SpentWeeks$Acts", "before", "[LSpentWeeks$County;", true)
  | 1 => ("SpentWeeks$Acts", "next", "I", false)
  | _ => ("SpentWeeks$Acts", "size", "I", false)
def tyX0 : Nat → FieldType := fun k => match k with
  | 0 => .array (.object "SpentWeeks$County")
  | 1 => .int
  | _ => .int
abbrev wsX00 : List Cond := u_ws RX0 TX0 3
theorem nmX0 : ∀ a, a < 3 → ∀ b, b < 3 → a ≠ b → (TX0 a).2.1 ≠ (TX0 b).2.1 := by decide +kernel
theorem tyX0_ok : ∀ k, k < 3 → parseFieldDescriptor (TX0 k).2.2.1 = some (tyX0 k) := by decide +kernel
def RX1 : String := "SpentWeeks$Asks"
def TX1 : u_T := fun k => match k with
  | 0 => ("SpentWeeks$Asks", "bodies", "[I", true)
  | _ => ("SpentWeeks$Asks", "traced", "I", false)
def tyX1 : Nat → FieldType := fun k => match k with
  | 0 => .array .int
  | _ => .int
abbrev wsX10 : List Cond := u_ws RX1 TX1 2
theorem nmX1 : ∀ a, a < 2 → ∀ b, b < 2 → a ≠ b → (TX1 a).2.1 ≠ (TX1 b).2.1 := by decide +kernel
theorem tyX1_ok : ∀ k, k < 2 → parseFieldDescriptor (TX1 k).2.2.1 = some (tyX1 k) := by decide +kernel
def RX2 : String := "SpentWeeks$County"
def TX2 : u_T := fun k => match k with
  | 0 => ("SpentWeeks$County", "term", "I", false)
  | 1 => ("SpentWeeks$County", "weight", "I", false)
  | 2 => ("SpentWeeks$County", "month", "I", false)
  | 3 => ("SpentWeeks$County", "people", "I", false)
  | _ => ("SpentWeeks$County", "person", "[LSpentWeeks$Person;", true)
def tyX2 : Nat → FieldType := fun k => match k with
  | 0 => .int
  | 1 => .int
  | 2 => .int
  | 3 => .int
  | _ => .array (.object "SpentWeeks$Person")
abbrev wsX20 : List Cond := u_ws RX2 TX2 5
theorem nmX2 : ∀ a, a < 5 → ∀ b, b < 5 → a ≠ b → (TX2 a).2.1 ≠ (TX2 b).2.1 := by decide +kernel
theorem tyX2_ok : ∀ k, k < 5 → parseFieldDescriptor (TX2 k).2.2.1 = some (tyX2 k) := by decide +kernel
def RX3 : String := "SpentWeeks$Deeds"
def TX3 : u_T := fun k => match k with
  | 0 => ("SpentWeeks$Deeds", "best", "[I", true)
  | 1 => ("SpentWeeks$Deeds", "leastOwed", "I", false)
  | 2 => ("SpentWeeks$Deeds", "order", "[I", true)
  | 3 => ("SpentWeeks$Deeds", "stages", "[LSpentWeeks$Person;", true)
  | 4 => ("SpentWeeks$Deeds", "weights", "[I", true)
  | 5 => ("SpentWeeks$Deeds", "size", "I", false)
  | 6 => ("SpentWeeks$Deeds", "month", "I", false)
  | _ => ("SpentWeeks$Deeds", "term", "I", false)
def tyX3 : Nat → FieldType := fun k => match k with
  | 0 => .array .int
  | 1 => .int
  | 2 => .array .int
  | 3 => .array (.object "SpentWeeks$Person")
  | 4 => .array .int
  | 5 => .int
  | 6 => .int
  | _ => .int
abbrev wsX30 : List Cond := u_ws RX3 TX3 8
theorem nmX3 : ∀ a, a < 8 → ∀ b, b < 8 → a ≠ b → (TX3 a).2.1 ≠ (TX3 b).2.1 := by decide +kernel
theorem tyX3_ok : ∀ k, k < 8 → parseFieldDescriptor (TX3 k).2.2.1 = some (tyX3 k) := by decide +kernel
def RX4 : String := "SpentWeeks$Person"
def TX4 : u_T := fun k => match k with
  | 0 => ("SpentWeeks$Person", "number", "I", true)
  | 1 => ("SpentWeeks$Person", "kind", "I", false)
  | 2 => ("SpentWeeks$Person", "lean", "I", false)
  | 3 => ("SpentWeeks$Person", "worth", "I", false)
  | 4 => ("SpentWeeks$Person", "cash", "I", false)
  | 5 => ("SpentWeeks$Person", "owes", "I", false)
  | 6 => ("SpentWeeks$Person", "done", "I", false)
  | 7 => ("SpentWeeks$Person", "lots", "I", false)
  | 8 => ("SpentWeeks$Person", "days", "[I", true)
  | _ => ("SpentWeeks$Person", "came", "[I", true)
def tyX4 : Nat → FieldType := fun k => match k with
  | 0 => .int
  | 1 => .int
  | 2 => .int
  | 3 => .int
  | 4 => .int
  | 5 => .int
  | 6 => .int
  | 7 => .int
  | 8 => .array .int
  | _ => .array .int
abbrev wsX40 : List Cond := u_ws RX4 TX4 10
theorem nmX4 : ∀ a, a < 10 → ∀ b, b < 10 → a ≠ b → (TX4 a).2.1 ≠ (TX4 b).2.1 := by decide +kernel
theorem tyX4_ok : ∀ k, k < 10 → parseFieldDescriptor (TX4 k).2.2.1 = some (tyX4 k) := by decide +kernel
def RX5 : String := "SpentWeeks$Rows"
def TX5 : u_T := fun k => match k with
  | 0 => ("SpentWeeks$Rows", "lanes", "[I", true)
  | 1 => ("SpentWeeks$Rows", "sizes", "[I", true)
  | _ => ("SpentWeeks$Rows", "items", "[[I", true)
def tyX5 : Nat → FieldType := fun k => match k with
  | 0 => .array .int
  | 1 => .array .int
  | _ => .array (.array .int)
abbrev wsX50 : List Cond := u_ws RX5 TX5 3
theorem nmX5 : ∀ a, a < 3 → ∀ b, b < 3 → a ≠ b → (TX5 a).2.1 ≠ (TX5 b).2.1 := by decide +kernel
theorem tyX5_ok : ∀ k, k < 3 → parseFieldDescriptor (TX5 k).2.2.1 = some (tyX5 k) := by decide +kernel
def RX6 : String := "SpentWeeks$Sets"
def TX6 : u_T := fun k => match k with
  | 0 => ("SpentWeeks$Sets", "howMany", "I", false)
  | 1 => ("SpentWeeks$Sets", "least", "I", false)
  | 2 => ("SpentWeeks$Sets", "low", "[I", true)
  | 3 => ("SpentWeeks$Sets", "merged", "[I", true)
  | _ => ("SpentWeeks$Sets", "high", "[I", true)
def tyX6 : Nat → FieldType := fun k => match k with
  | 0 => .int
  | 1 => .int
  | 2 => .array .int
  | 3 => .array .int
  | _ => .array .int
abbrev wsX60 : List Cond := u_ws RX6 TX6 5
theorem nmX6 : ∀ a, a < 5 → ∀ b, b < 5 → a ≠ b → (TX6 a).2.1 ≠ (TX6 b).2.1 := by decide +kernel
theorem tyX6_ok : ∀ k, k < 5 → parseFieldDescriptor (TX6 k).2.2.1 = some (tyX6 k) := by decide +kernel
def RX7 : String := "SpentWeeks$Tape"
def TX7 : u_T := fun k => match k with
  | 0 => ("SpentWeeks$Tape", "bytes", "[I", true)
  | 1 => ("SpentWeeks$Tape", "size", "I", false)
  | 2 => ("SpentWeeks$Tape", "faultNumber", "I", false)
  | 3 => ("SpentWeeks$Tape", "faultPlace", "I", false)
  | 4 => ("SpentWeeks$Tape", "at", "I", false)
  | _ => ("SpentWeeks$Tape", "value", "I", false)
def tyX7 : Nat → FieldType := fun k => match k with
  | 0 => .array .int
  | 1 => .int
  | 2 => .int
  | 3 => .int
  | 4 => .int
  | _ => .int
abbrev wsX70 : List Cond := u_ws RX7 TX7 6
theorem nmX7 : ∀ a, a < 6 → ∀ b, b < 6 → a ≠ b → (TX7 a).2.1 ≠ (TX7 b).2.1 := by decide +kernel
theorem tyX7_ok : ∀ k, k < 6 → parseFieldDescriptor (TX7 k).2.2.1 = some (tyX7 k) := by decide +kernel
def RX8 : String := "SpentWeeks"
def TX8 : u_T := fun k => match k with
  | 0 => ("SpentWeeks", "rows", "LSpentWeeks$Rows;", true)
  | 1 => ("SpentWeeks", "tape", "LSpentWeeks$Tape;", true)
  | 2 => ("SpentWeeks", "acts", "LSpentWeeks$Acts;", true)
  | 3 => ("SpentWeeks", "asks", "LSpentWeeks$Asks;", true)
  | 4 => ("SpentWeeks", "deeds", "LSpentWeeks$Deeds;", true)
  | 5 => ("SpentWeeks", "sets", "LSpentWeeks$Sets;", true)
  | 6 => ("SpentWeeks", "now", "LSpentWeeks$County;", true)
  | 7 => ("SpentWeeks", "scratch", "LSpentWeeks$County;", true)
  | 8 => ("SpentWeeks", "images", "[LSpentWeeks$County;", true)
  | 9 => ("SpentWeeks", "imageKept", "[Z", true)
  | 10 => ("SpentWeeks", "told", "[I", true)
  | 11 => ("SpentWeeks", "hasCounty", "Z", false)
  | 12 => ("SpentWeeks", "latestFault", "I", false)
  | _ => ("SpentWeeks", "latestFinding", "I", false)
def tyX8 : Nat → FieldType := fun k => match k with
  | 0 => .object "SpentWeeks$Rows"
  | 1 => .object "SpentWeeks$Tape"
  | 2 => .object "SpentWeeks$Acts"
  | 3 => .object "SpentWeeks$Asks"
  | 4 => .object "SpentWeeks$Deeds"
  | 5 => .object "SpentWeeks$Sets"
  | 6 => .object "SpentWeeks$County"
  | 7 => .object "SpentWeeks$County"
  | 8 => .array (.object "SpentWeeks$County")
  | 9 => .array .boolean
  | 10 => .array .int
  | 11 => .boolean
  | 12 => .int
  | _ => .int
abbrev wsX80 : List Cond := u_ws RX8 TX8 14
theorem nmX8 : ∀ a, a < 14 → ∀ b, b < 14 → a ≠ b → (TX8 a).2.1 ≠ (TX8 b).2.1 := by decide +kernel
theorem tyX8_ok : ∀ k, k < 14 → parseFieldDescriptor (TX8 k).2.2.1 = some (tyX8 k) := by decide +kernel
def RX9 : String := "SpentWeeksModel"
def TX9 : u_T := fun k => match k with
  | 0 => ("SpentWeeksModel", "row", "[I", true)
  | 1 => ("SpentWeeksModel", "pasts", "[I", true)
  | 2 => ("SpentWeeksModel", "pastMany", "I", false)
  | 3 => ("SpentWeeksModel", "tape", "[I", true)
  | 4 => ("SpentWeeksModel", "taped", "I", false)
  | 5 => ("SpentWeeksModel", "fault", "I", false)
  | 6 => ("SpentWeeksModel", "status", "I", false)
  | 7 => ("SpentWeeksModel", "lanes", "[I", true)
  | 8 => ("SpentWeeksModel", "sizes", "[I", true)
  | 9 => ("SpentWeeksModel", "items", "[I", true)
  | 10 => ("SpentWeeksModel", "traces", "[I", true)
  | 11 => ("SpentWeeksModel", "traceMany", "I", false)
  | 12 => ("SpentWeeksModel", "place", "I", false)
  | 13 => ("SpentWeeksModel", "readTerm", "I", false)
  | 14 => ("SpentWeeksModel", "readWeight", "I", false)
  | 15 => ("SpentWeeksModel", "readPeople", "[I", true)
  | 16 => ("SpentWeeksModel", "readMany", "I", false)
  | 17 => ("SpentWeeksModel", "draw", "J", false)
  | 18 => ("SpentWeeksModel", "deeds", "I", false)
  | _ => ("SpentWeeksModel", "order", "[I", true)
def tyX9 : Nat → FieldType := fun k => match k with
  | 0 => .array .int
  | 1 => .array .int
  | 2 => .int
  | 3 => .array .int
  | 4 => .int
  | 5 => .int
  | 6 => .int
  | 7 => .array .int
  | 8 => .array .int
  | 9 => .array .int
  | 10 => .array .int
  | 11 => .int
  | 12 => .int
  | 13 => .int
  | 14 => .int
  | 15 => .array .int
  | 16 => .int
  | 17 => .long
  | 18 => .int
  | _ => .array .int
abbrev wsX90 : List Cond := u_ws RX9 TX9 20
theorem nmX9 : ∀ a, a < 20 → ∀ b, b < 20 → a ≠ b → (TX9 a).2.1 ≠ (TX9 b).2.1 := by decide +kernel
theorem tyX9_ok : ∀ k, k < 20 → parseFieldDescriptor (TX9 k).2.2.1 = some (tyX9 k) := by decide +kernel
abbrev vwCl : List vw_C := [(RX0, TX0, 3), (RX1, TX1, 2), (RX2, TX2, 5), (RX3, TX3, 8), (RX4, TX4, 10), (RX5, TX5, 3), (RX6, TX6, 5), (RX7, TX7, 6), (RX8, TX8, 14), (RX9, TX9, 20)]
