-- ===== PART A: goes FIRST, ahead of the names: the tables' words, and 'selects' of the private methods out of them =====
/-- a private method of a class that the tables say can be made, by its rows of tables_1 -/
def lw_okq (q : MethodName × Nat) : Prop := (q.1.cls ≠ "java/lang/invoke/MethodHandle" ∧ q.1.cls ≠ "java/lang/invoke/VarHandle") ∧ Cond.instantiable q.1.cls q.2 ∈ tables_1 ∧ Cond.privateMethod q.1 ∈ tables_1 ∧ Cond.instanceMethod q.1 ∈ tables_1
theorem lw_p0 : lw_okq (⟨"RoommateHouse", "startWith", "(I)V"⟩, 4) := ⟨⟨by decide +kernel, by decide +kernel⟩, List.mem_of_getElem? (i := 14) (by decide +kernel), List.mem_of_getElem? (i := 117) (by decide +kernel), List.mem_of_getElem? (i := 118) (by decide +kernel)⟩
theorem lw_p1 : lw_okq (⟨"RoommateHouse$Draft", "makeSingle", "(I)V"⟩, 2) := ⟨⟨by decide +kernel, by decide +kernel⟩, List.mem_of_getElem? (i := 50) (by decide +kernel), List.mem_of_getElem? (i := 170) (by decide +kernel), List.mem_of_getElem? (i := 171) (by decide +kernel)⟩
theorem lw_p2 : lw_okq (⟨"RoommateHouse$StableMatchings", "reckon", "()V"⟩, 6) := ⟨⟨by decide +kernel, by decide +kernel⟩, List.mem_of_getElem? (i := 63) (by decide +kernel), List.mem_of_getElem? (i := 182) (by decide +kernel), List.mem_of_getElem? (i := 183) (by decide +kernel)⟩
theorem lw_p3 : lw_okq (⟨"RoommateHouse$StableMatchings", "search", "(I)V"⟩, 6) := ⟨⟨by decide +kernel, by decide +kernel⟩, List.mem_of_getElem? (i := 63) (by decide +kernel), List.mem_of_getElem? (i := 190) (by decide +kernel), List.mem_of_getElem? (i := 191) (by decide +kernel)⟩
theorem lw_p4 : lw_okq (⟨"RoommateHouse$StableMatchings", "keep", "()V"⟩, 6) := ⟨⟨by decide +kernel, by decide +kernel⟩, List.mem_of_getElem? (i := 63) (by decide +kernel), List.mem_of_getElem? (i := 195) (by decide +kernel), List.mem_of_getElem? (i := 196) (by decide +kernel)⟩
theorem lw_p5 : lw_okq (⟨"RoommateHouse$StableMatchings", "searchWith", "(II)V"⟩, 6) := ⟨⟨by decide +kernel, by decide +kernel⟩, List.mem_of_getElem? (i := 63) (by decide +kernel), List.mem_of_getElem? (i := 211) (by decide +kernel), List.mem_of_getElem? (i := 212) (by decide +kernel)⟩
theorem lw_p6 : lw_okq (⟨"RoommateHouse$Partition", "reckon", "()V"⟩, 7) := ⟨⟨by decide +kernel, by decide +kernel⟩, List.mem_of_getElem? (i := 89) (by decide +kernel), List.mem_of_getElem? (i := 228) (by decide +kernel), List.mem_of_getElem? (i := 229) (by decide +kernel)⟩
theorem lw_p7 : lw_okq (⟨"RoommateHouse$Partition", "search", "(I)Z"⟩, 7) := ⟨⟨by decide +kernel, by decide +kernel⟩, List.mem_of_getElem? (i := 89) (by decide +kernel), List.mem_of_getElem? (i := 233) (by decide +kernel), List.mem_of_getElem? (i := 234) (by decide +kernel)⟩
theorem lw_p8 : lw_okq (⟨"RoommateHouse$Partition", "searchWith", "(II)Z"⟩, 7) := ⟨⟨by decide +kernel, by decide +kernel⟩, List.mem_of_getElem? (i := 89) (by decide +kernel), List.mem_of_getElem? (i := 241) (by decide +kernel), List.mem_of_getElem? (i := 242) (by decide +kernel)⟩
theorem lw_p9 : lw_okq (⟨"RoommateHouse$Partition", "keepsOrder", "(I)Z"⟩, 7) := ⟨⟨by decide +kernel, by decide +kernel⟩, List.mem_of_getElem? (i := 89) (by decide +kernel), List.mem_of_getElem? (i := 245) (by decide +kernel), List.mem_of_getElem? (i := 246) (by decide +kernel)⟩
theorem lw_p10 : lw_okq (⟨"RoommateHouse$Partition", "measureAll", "()V"⟩, 7) := ⟨⟨by decide +kernel, by decide +kernel⟩, List.mem_of_getElem? (i := 89) (by decide +kernel), List.mem_of_getElem? (i := 254) (by decide +kernel), List.mem_of_getElem? (i := 255) (by decide +kernel)⟩
theorem lw_p11 : lw_okq (⟨"RoommateHouse$Partition", "sizeRound", "(I)I"⟩, 7) := ⟨⟨by decide +kernel, by decide +kernel⟩, List.mem_of_getElem? (i := 89) (by decide +kernel), List.mem_of_getElem? (i := 258) (by decide +kernel), List.mem_of_getElem? (i := 259) (by decide +kernel)⟩
theorem lw_p12 : lw_okq (⟨"RoommateHouse$Partition", "countParty", "(II)V"⟩, 7) := ⟨⟨by decide +kernel, by decide +kernel⟩, List.mem_of_getElem? (i := 89) (by decide +kernel), List.mem_of_getElem? (i := 262) (by decide +kernel), List.mem_of_getElem? (i := 263) (by decide +kernel)⟩
theorem lw_p13 : lw_okq (⟨"RoommateHouse$Draft", "isAstray", "(I)Z"⟩, 2) := ⟨⟨by decide +kernel, by decide +kernel⟩, List.mem_of_getElem? (i := 50) (by decide +kernel), List.mem_of_getElem? (i := 283) (by decide +kernel), List.mem_of_getElem? (i := 284) (by decide +kernel)⟩
theorem lw_p14 : lw_okq (⟨"java/lang/Throwable", "fillInStackTrace", "(I)Ljava/lang/Throwable;"⟩, 6) := ⟨⟨by decide +kernel, by decide +kernel⟩, List.mem_of_getElem? (i := 334) (by decide +kernel), List.mem_of_getElem? (i := 332) (by decide +kernel), List.mem_of_getElem? (i := 333) (by decide +kernel)⟩
theorem lw_p15 : lw_okq (⟨"RoommateHouse", "demandPersons", "(II)V"⟩, 4) := ⟨⟨by decide +kernel, by decide +kernel⟩, List.mem_of_getElem? (i := 14) (by decide +kernel), List.mem_of_getElem? (i := 368) (by decide +kernel), List.mem_of_getElem? (i := 369) (by decide +kernel)⟩
def lw_privs_1 : List (MethodName × Nat) := [(⟨"RoommateHouse", "startWith", "(I)V"⟩, 4), (⟨"RoommateHouse$Draft", "makeSingle", "(I)V"⟩, 2), (⟨"RoommateHouse$StableMatchings", "reckon", "()V"⟩, 6), (⟨"RoommateHouse$StableMatchings", "search", "(I)V"⟩, 6), (⟨"RoommateHouse$StableMatchings", "keep", "()V"⟩, 6), (⟨"RoommateHouse$StableMatchings", "searchWith", "(II)V"⟩, 6), (⟨"RoommateHouse$Partition", "reckon", "()V"⟩, 7), (⟨"RoommateHouse$Partition", "search", "(I)Z"⟩, 7), (⟨"RoommateHouse$Partition", "searchWith", "(II)Z"⟩, 7), (⟨"RoommateHouse$Partition", "keepsOrder", "(I)Z"⟩, 7), (⟨"RoommateHouse$Partition", "measureAll", "()V"⟩, 7), (⟨"RoommateHouse$Partition", "sizeRound", "(I)I"⟩, 7), (⟨"RoommateHouse$Partition", "countParty", "(II)V"⟩, 7), (⟨"RoommateHouse$Draft", "isAstray", "(I)Z"⟩, 2), (⟨"java/lang/Throwable", "fillInStackTrace", "(I)Ljava/lang/Throwable;"⟩, 6), (⟨"RoommateHouse", "demandPersons", "(II)V"⟩, 4)]
theorem lw_r1 : ∀ q ∈ lw_privs_1, lw_okq q := List.forall_mem_cons.mpr ⟨lw_p0, List.forall_mem_cons.mpr ⟨lw_p1, List.forall_mem_cons.mpr ⟨lw_p2, List.forall_mem_cons.mpr ⟨lw_p3, List.forall_mem_cons.mpr ⟨lw_p4, List.forall_mem_cons.mpr ⟨lw_p5, List.forall_mem_cons.mpr ⟨lw_p6, List.forall_mem_cons.mpr ⟨lw_p7, List.forall_mem_cons.mpr ⟨lw_p8, List.forall_mem_cons.mpr ⟨lw_p9, List.forall_mem_cons.mpr ⟨lw_p10, List.forall_mem_cons.mpr ⟨lw_p11, List.forall_mem_cons.mpr ⟨lw_p12, List.forall_mem_cons.mpr ⟨lw_p13, List.forall_mem_cons.mpr ⟨lw_p14, List.forall_mem_cons.mpr ⟨lw_p15, fun _ h => absurd h List.not_mem_nil⟩⟩⟩⟩⟩⟩⟩⟩⟩⟩⟩⟩⟩⟩⟩⟩
theorem lw_p16 : lw_okq (⟨"RoommateHouse", "demandPerson", "(I)V"⟩, 4) := ⟨⟨by decide +kernel, by decide +kernel⟩, List.mem_of_getElem? (i := 14) (by decide +kernel), List.mem_of_getElem? (i := 372) (by decide +kernel), List.mem_of_getElem? (i := 373) (by decide +kernel)⟩
theorem lw_p17 : lw_okq (⟨"RoommateHouse$Wishes", "set", "(III)V"⟩, 6) := ⟨⟨by decide +kernel, by decide +kernel⟩, List.mem_of_getElem? (i := 22) (by decide +kernel), List.mem_of_getElem? (i := 414) (by decide +kernel), List.mem_of_getElem? (i := 415) (by decide +kernel)⟩
theorem lw_p18 : lw_okq (⟨"RoommateHouse$Wishes", "noteChange", "(I)V"⟩, 6) := ⟨⟨by decide +kernel, by decide +kernel⟩, List.mem_of_getElem? (i := 22) (by decide +kernel), List.mem_of_getElem? (i := 418) (by decide +kernel), List.mem_of_getElem? (i := 419) (by decide +kernel)⟩
theorem lw_p19 : lw_okq (⟨"RoommateHouse", "demandPlace", "(II)V"⟩, 4) := ⟨⟨by decide +kernel, by decide +kernel⟩, List.mem_of_getElem? (i := 14) (by decide +kernel), List.mem_of_getElem? (i := 430) (by decide +kernel), List.mem_of_getElem? (i := 431) (by decide +kernel)⟩
theorem lw_p20 : lw_okq (⟨"RoommateHouse$Wishes", "slide", "(III)V"⟩, 6) := ⟨⟨by decide +kernel, by decide +kernel⟩, List.mem_of_getElem? (i := 22) (by decide +kernel), List.mem_of_getElem? (i := 439) (by decide +kernel), List.mem_of_getElem? (i := 440) (by decide +kernel)⟩
theorem lw_p21 : lw_okq (⟨"RoommateHouseModel", "isPerson", "(I)Z"⟩, 17) := ⟨⟨by decide +kernel, by decide +kernel⟩, List.mem_of_getElem? (i := 551) (by decide +kernel), List.mem_of_getElem? (i := 621) (by decide +kernel), List.mem_of_getElem? (i := 622) (by decide +kernel)⟩
theorem lw_p22 : lw_okq (⟨"RoommateHouseModel", "placeOf", "(II)I"⟩, 17) := ⟨⟨by decide +kernel, by decide +kernel⟩, List.mem_of_getElem? (i := 551) (by decide +kernel), List.mem_of_getElem? (i := 625) (by decide +kernel), List.mem_of_getElem? (i := 626) (by decide +kernel)⟩
theorem lw_p23 : lw_okq (⟨"RoommateHouseModel", "change", "()V"⟩, 17) := ⟨⟨by decide +kernel, by decide +kernel⟩, List.mem_of_getElem? (i := 551) (by decide +kernel), List.mem_of_getElem? (i := 629) (by decide +kernel), List.mem_of_getElem? (i := 630) (by decide +kernel)⟩
theorem lw_p24 : lw_okq (⟨"RoommateHouseModel", "mayBe", "(II)Z"⟩, 17) := ⟨⟨by decide +kernel, by decide +kernel⟩, List.mem_of_getElem? (i := 551) (by decide +kernel), List.mem_of_getElem? (i := 633) (by decide +kernel), List.mem_of_getElem? (i := 634) (by decide +kernel)⟩
theorem lw_p25 : lw_okq (⟨"RoommateHouseModel", "isPlace", "(II)Z"⟩, 17) := ⟨⟨by decide +kernel, by decide +kernel⟩, List.mem_of_getElem? (i := 551) (by decide +kernel), List.mem_of_getElem? (i := 641) (by decide +kernel), List.mem_of_getElem? (i := 642) (by decide +kernel)⟩
theorem lw_p26 : lw_okq (⟨"RoommateHouseModel", "join", "(II)V"⟩, 17) := ⟨⟨by decide +kernel, by decide +kernel⟩, List.mem_of_getElem? (i := 551) (by decide +kernel), List.mem_of_getElem? (i := 661) (by decide +kernel), List.mem_of_getElem? (i := 662) (by decide +kernel)⟩
theorem lw_p27 : lw_okq (⟨"RoommateHouseModel", "blockingOf", "([I)I"⟩, 17) := ⟨⟨by decide +kernel, by decide +kernel⟩, List.mem_of_getElem? (i := 551) (by decide +kernel), List.mem_of_getElem? (i := 665) (by decide +kernel), List.mem_of_getElem? (i := 666) (by decide +kernel)⟩
theorem lw_p28 : lw_okq (⟨"RoommateHouseModel", "blocks", "(II[I)Z"⟩, 17) := ⟨⟨by decide +kernel, by decide +kernel⟩, List.mem_of_getElem? (i := 551) (by decide +kernel), List.mem_of_getElem? (i := 669) (by decide +kernel), List.mem_of_getElem? (i := 670) (by decide +kernel)⟩
theorem lw_p29 : lw_okq (⟨"RoommateHouseModel", "prefers", "(III)Z"⟩, 17) := ⟨⟨by decide +kernel, by decide +kernel⟩, List.mem_of_getElem? (i := 551) (by decide +kernel), List.mem_of_getElem? (i := 673) (by decide +kernel), List.mem_of_getElem? (i := 674) (by decide +kernel)⟩
theorem lw_p30 : lw_okq (⟨"RoommateHouseModel", "learn", "()V"⟩, 17) := ⟨⟨by decide +kernel, by decide +kernel⟩, List.mem_of_getElem? (i := 551) (by decide +kernel), List.mem_of_getElem? (i := 693) (by decide +kernel), List.mem_of_getElem? (i := 694) (by decide +kernel)⟩
theorem lw_p31 : lw_okq (⟨"RoommateHouseModel", "goThrough", "(Z)V"⟩, 17) := ⟨⟨by decide +kernel, by decide +kernel⟩, List.mem_of_getElem? (i := 551) (by decide +kernel), List.mem_of_getElem? (i := 697) (by decide +kernel), List.mem_of_getElem? (i := 698) (by decide +kernel)⟩
def lw_privs_2 : List (MethodName × Nat) := [(⟨"RoommateHouse", "demandPerson", "(I)V"⟩, 4), (⟨"RoommateHouse$Wishes", "set", "(III)V"⟩, 6), (⟨"RoommateHouse$Wishes", "noteChange", "(I)V"⟩, 6), (⟨"RoommateHouse", "demandPlace", "(II)V"⟩, 4), (⟨"RoommateHouse$Wishes", "slide", "(III)V"⟩, 6), (⟨"RoommateHouseModel", "isPerson", "(I)Z"⟩, 17), (⟨"RoommateHouseModel", "placeOf", "(II)I"⟩, 17), (⟨"RoommateHouseModel", "change", "()V"⟩, 17), (⟨"RoommateHouseModel", "mayBe", "(II)Z"⟩, 17), (⟨"RoommateHouseModel", "isPlace", "(II)Z"⟩, 17), (⟨"RoommateHouseModel", "join", "(II)V"⟩, 17), (⟨"RoommateHouseModel", "blockingOf", "([I)I"⟩, 17), (⟨"RoommateHouseModel", "blocks", "(II[I)Z"⟩, 17), (⟨"RoommateHouseModel", "prefers", "(III)Z"⟩, 17), (⟨"RoommateHouseModel", "learn", "()V"⟩, 17), (⟨"RoommateHouseModel", "goThrough", "(Z)V"⟩, 17)]
theorem lw_r2 : ∀ q ∈ lw_privs_2, lw_okq q := List.forall_mem_cons.mpr ⟨lw_p16, List.forall_mem_cons.mpr ⟨lw_p17, List.forall_mem_cons.mpr ⟨lw_p18, List.forall_mem_cons.mpr ⟨lw_p19, List.forall_mem_cons.mpr ⟨lw_p20, List.forall_mem_cons.mpr ⟨lw_p21, List.forall_mem_cons.mpr ⟨lw_p22, List.forall_mem_cons.mpr ⟨lw_p23, List.forall_mem_cons.mpr ⟨lw_p24, List.forall_mem_cons.mpr ⟨lw_p25, List.forall_mem_cons.mpr ⟨lw_p26, List.forall_mem_cons.mpr ⟨lw_p27, List.forall_mem_cons.mpr ⟨lw_p28, List.forall_mem_cons.mpr ⟨lw_p29, List.forall_mem_cons.mpr ⟨lw_p30, List.forall_mem_cons.mpr ⟨lw_p31, fun _ h => absurd h List.not_mem_nil⟩⟩⟩⟩⟩⟩⟩⟩⟩⟩⟩⟩⟩⟩⟩⟩
theorem lw_p32 : lw_okq (⟨"RoommateHouseModel", "look", "(Z)Z"⟩, 17) := ⟨⟨by decide +kernel, by decide +kernel⟩, List.mem_of_getElem? (i := 551) (by decide +kernel), List.mem_of_getElem? (i := 701) (by decide +kernel), List.mem_of_getElem? (i := 702) (by decide +kernel)⟩
theorem lw_p33 : lw_okq (⟨"RoommateHouseModel", "isPartition", "()Z"⟩, 17) := ⟨⟨by decide +kernel, by decide +kernel⟩, List.mem_of_getElem? (i := 551) (by decide +kernel), List.mem_of_getElem? (i := 705) (by decide +kernel), List.mem_of_getElem? (i := 706) (by decide +kernel)⟩
theorem lw_p34 : lw_okq (⟨"RoommateHouseModel", "isStable", "([I)Z"⟩, 17) := ⟨⟨by decide +kernel, by decide +kernel⟩, List.mem_of_getElem? (i := 551) (by decide +kernel), List.mem_of_getElem? (i := 709) (by decide +kernel), List.mem_of_getElem? (i := 710) (by decide +kernel)⟩
theorem lw_p35 : lw_okq (⟨"RoommateHouseModel", "wouldLeave", "(II[I)Z"⟩, 17) := ⟨⟨by decide +kernel, by decide +kernel⟩, List.mem_of_getElem? (i := 551) (by decide +kernel), List.mem_of_getElem? (i := 713) (by decide +kernel), List.mem_of_getElem? (i := 714) (by decide +kernel)⟩
theorem lw_p36 : lw_okq (⟨"RoommateHouseModel", "takesParties", "()Z"⟩, 17) := ⟨⟨by decide +kernel, by decide +kernel⟩, List.mem_of_getElem? (i := 551) (by decide +kernel), List.mem_of_getElem? (i := 717) (by decide +kernel), List.mem_of_getElem? (i := 718) (by decide +kernel)⟩
theorem lw_p37 : lw_okq (⟨"RoommateHouseModel", "forget", "(IZ)V"⟩, 17) := ⟨⟨by decide +kernel, by decide +kernel⟩, List.mem_of_getElem? (i := 551) (by decide +kernel), List.mem_of_getElem? (i := 721) (by decide +kernel), List.mem_of_getElem? (i := 722) (by decide +kernel)⟩
theorem lw_p38 : lw_okq (⟨"RoommateHouseModel", "nextChoice", "(IIZ)I"⟩, 17) := ⟨⟨by decide +kernel, by decide +kernel⟩, List.mem_of_getElem? (i := 551) (by decide +kernel), List.mem_of_getElem? (i := 725) (by decide +kernel), List.mem_of_getElem? (i := 726) (by decide +kernel)⟩
theorem lw_p39 : lw_okq (⟨"RoommateHouseModel", "chosen", "(II)I"⟩, 17) := ⟨⟨by decide +kernel, by decide +kernel⟩, List.mem_of_getElem? (i := 551) (by decide +kernel), List.mem_of_getElem? (i := 729) (by decide +kernel), List.mem_of_getElem? (i := 730) (by decide +kernel)⟩
theorem lw_p40 : lw_okq (⟨"RoommateHouseModel", "goes", "(IIZ)Z"⟩, 17) := ⟨⟨by decide +kernel, by decide +kernel⟩, List.mem_of_getElem? (i := 551) (by decide +kernel), List.mem_of_getElem? (i := 733) (by decide +kernel), List.mem_of_getElem? (i := 734) (by decide +kernel)⟩
theorem lw_p41 : lw_okq (⟨"RoommateHouseModel", "mayStay", "(II)Z"⟩, 17) := ⟨⟨by decide +kernel, by decide +kernel⟩, List.mem_of_getElem? (i := 551) (by decide +kernel), List.mem_of_getElem? (i := 737) (by decide +kernel), List.mem_of_getElem? (i := 738) (by decide +kernel)⟩
def lw_privs_3 : List (MethodName × Nat) := [(⟨"RoommateHouseModel", "look", "(Z)Z"⟩, 17), (⟨"RoommateHouseModel", "isPartition", "()Z"⟩, 17), (⟨"RoommateHouseModel", "isStable", "([I)Z"⟩, 17), (⟨"RoommateHouseModel", "wouldLeave", "(II[I)Z"⟩, 17), (⟨"RoommateHouseModel", "takesParties", "()Z"⟩, 17), (⟨"RoommateHouseModel", "forget", "(IZ)V"⟩, 17), (⟨"RoommateHouseModel", "nextChoice", "(IIZ)I"⟩, 17), (⟨"RoommateHouseModel", "chosen", "(II)I"⟩, 17), (⟨"RoommateHouseModel", "goes", "(IIZ)Z"⟩, 17), (⟨"RoommateHouseModel", "mayStay", "(II)Z"⟩, 17)]
theorem lw_r3 : ∀ q ∈ lw_privs_3, lw_okq q := List.forall_mem_cons.mpr ⟨lw_p32, List.forall_mem_cons.mpr ⟨lw_p33, List.forall_mem_cons.mpr ⟨lw_p34, List.forall_mem_cons.mpr ⟨lw_p35, List.forall_mem_cons.mpr ⟨lw_p36, List.forall_mem_cons.mpr ⟨lw_p37, List.forall_mem_cons.mpr ⟨lw_p38, List.forall_mem_cons.mpr ⟨lw_p39, List.forall_mem_cons.mpr ⟨lw_p40, List.forall_mem_cons.mpr ⟨lw_p41, fun _ h => absurd h List.not_mem_nil⟩⟩⟩⟩⟩⟩⟩⟩⟩⟩
def lw_privs : List (MethodName × Nat) := lw_privs_1 ++ (lw_privs_2 ++ (lw_privs_3))
def lw_tbl : List Cond := k2_sels lw_privs ++ tables_1
theorem lw_privs_ok : ∀ q ∈ lw_privs, lw_okq q := by
  show ∀ q ∈ lw_privs_1 ++ (lw_privs_2 ++ (lw_privs_3)), lw_okq q
  exact List.forall_mem_append.mpr ⟨lw_r1, List.forall_mem_append.mpr ⟨lw_r2, lw_r3⟩⟩
/-! the kinds of objects, their fields; the words, by their places -/
def pm_T0 : u_T := fun k => match k with
  | 0 => ("RoommateHouse", "wishes", "LRoommateHouse$Wishes;", true)
  | 1 => ("RoommateHouse", "draft", "LRoommateHouse$Draft;", true)
  | 2 => ("RoommateHouse", "stable", "LRoommateHouse$StableMatchings;", true)
  | _ => ("RoommateHouse", "partition", "LRoommateHouse$Partition;", true)
def pm_ty0 : Nat → FieldType := fun k => match k with
  | 0 => .object "RoommateHouse$Wishes"
  | 1 => .object "RoommateHouse$Draft"
  | 2 => .object "RoommateHouse$StableMatchings"
  | _ => .object "RoommateHouse$Partition"
theorem pm_nm0 : ∀ a, a < 4 → ∀ b, b < 4 → a ≠ b → (pm_T0 a).2.1 ≠ (pm_T0 b).2.1 := by decide +kernel
theorem pm_tyo0 : ∀ k, k < 4 → parseFieldDescriptor (pm_T0 k).2.2.1 = some (pm_ty0 k) := by decide +kernel
def pm_T1 : u_T := fun k => match k with
  | 0 => ("RoommateHouse$Wishes", "lengths", "[I", true)
  | 1 => ("RoommateHouse$Wishes", "others", "[[I", true)
  | 2 => ("RoommateHouse$Wishes", "places", "[[I", true)
  | 3 => ("RoommateHouse$Wishes", "standings", "[[I", true)
  | 4 => ("RoommateHouse$Wishes", "count", "I", false)
  | _ => ("RoommateHouse$Wishes", "changes", "I", false)
def pm_ty1 : Nat → FieldType := fun k => match k with
  | 0 => .array .int
  | 1 => .array (.array .int)
  | 2 => .array (.array .int)
  | 3 => .array (.array .int)
  | 4 => .int
  | _ => .int
theorem pm_nm1 : ∀ a, a < 6 → ∀ b, b < 6 → a ≠ b → (pm_T1 a).2.1 ≠ (pm_T1 b).2.1 := by decide +kernel
theorem pm_tyo1 : ∀ k, k < 6 → parseFieldDescriptor (pm_T1 k).2.2.1 = some (pm_ty1 k) := by decide +kernel
def pm_T2 : u_T := fun k => match k with
  | 0 => ("RoommateHouse$Draft", "wishes", "LRoommateHouse$Wishes;", true)
  | _ => ("RoommateHouse$Draft", "mates", "[I", true)
def pm_ty2 : Nat → FieldType := fun k => match k with
  | 0 => .object "RoommateHouse$Wishes"
  | _ => .array .int
theorem pm_nm2 : ∀ a, a < 2 → ∀ b, b < 2 → a ≠ b → (pm_T2 a).2.1 ≠ (pm_T2 b).2.1 := by decide +kernel
theorem pm_tyo2 : ∀ k, k < 2 → parseFieldDescriptor (pm_T2 k).2.2.1 = some (pm_ty2 k) := by decide +kernel
def pm_T3 : u_T := fun k => match k with
  | 0 => ("RoommateHouse$StableMatchings", "wishes", "LRoommateHouse$Wishes;", true)
  | 1 => ("RoommateHouse$StableMatchings", "tried", "[I", true)
  | 2 => ("RoommateHouse$StableMatchings", "first", "[I", true)
  | 3 => ("RoommateHouse$StableMatchings", "often", "[[I", true)
  | 4 => ("RoommateHouse$StableMatchings", "found", "I", false)
  | _ => ("RoommateHouse$StableMatchings", "reckonedAt", "I", false)
def pm_ty3 : Nat → FieldType := fun k => match k with
  | 0 => .object "RoommateHouse$Wishes"
  | 1 => .array .int
  | 2 => .array .int
  | 3 => .array (.array .int)
  | 4 => .int
  | _ => .int
theorem pm_nm3 : ∀ a, a < 6 → ∀ b, b < 6 → a ≠ b → (pm_T3 a).2.1 ≠ (pm_T3 b).2.1 := by decide +kernel
theorem pm_tyo3 : ∀ k, k < 6 → parseFieldDescriptor (pm_T3 k).2.2.1 = some (pm_ty3 k) := by decide +kernel
def pm_T4 : u_T := fun k => match k with
  | 0 => ("RoommateHouse$Partition", "wishes", "LRoommateHouse$Wishes;", true)
  | 1 => ("RoommateHouse$Partition", "followers", "[I", true)
  | 2 => ("RoommateHouse$Partition", "leaders", "[I", true)
  | 3 => ("RoommateHouse$Partition", "oddSizes", "[I", true)
  | 4 => ("RoommateHouse$Partition", "odd", "I", false)
  | 5 => ("RoommateHouse$Partition", "oddRings", "I", false)
  | _ => ("RoommateHouse$Partition", "reckonedAt", "I", false)
def pm_ty4 : Nat → FieldType := fun k => match k with
  | 0 => .object "RoommateHouse$Wishes"
  | 1 => .array .int
  | 2 => .array .int
  | 3 => .array .int
  | 4 => .int
  | 5 => .int
  | _ => .int
theorem pm_nm4 : ∀ a, a < 7 → ∀ b, b < 7 → a ≠ b → (pm_T4 a).2.1 ≠ (pm_T4 b).2.1 := by decide +kernel
theorem pm_tyo4 : ∀ k, k < 7 → parseFieldDescriptor (pm_T4 k).2.2.1 = some (pm_ty4 k) := by decide +kernel
def pm_T5 : u_T := fun k => match k with
  | 0 => ("RoommateHouseModel", "code", "I", false)
  | 1 => ("RoommateHouseModel", "n", "I", false)
  | 2 => ("RoommateHouseModel", "sizes", "[I", true)
  | 3 => ("RoommateHouseModel", "list", "[I", true)
  | 4 => ("RoommateHouseModel", "partners", "[I", true)
  | 5 => ("RoommateHouseModel", "known", "Z", false)
  | 6 => ("RoommateHouseModel", "found", "I", false)
  | 7 => ("RoommateHouseModel", "times", "[I", true)
  | 8 => ("RoommateHouseModel", "first", "[I", true)
  | 9 => ("RoommateHouseModel", "nexts", "[I", true)
  | 10 => ("RoommateHouseModel", "partySize", "[I", true)
  | 11 => ("RoommateHouseModel", "partyCount", "I", false)
  | 12 => ("RoommateHouseModel", "threeCount", "I", false)
  | 13 => ("RoommateHouseModel", "with", "[I", true)
  | 14 => ("RoommateHouseModel", "lasts", "[I", true)
  | 15 => ("RoommateHouseModel", "choices", "[I", true)
  | _ => ("RoommateHouseModel", "ranks", "[I", true)
def pm_ty5 : Nat → FieldType := fun k => match k with
  | 0 => .int
  | 1 => .int
  | 2 => .array .int
  | 3 => .array .int
  | 4 => .array .int
  | 5 => .boolean
  | 6 => .int
  | 7 => .array .int
  | 8 => .array .int
  | 9 => .array .int
  | 10 => .array .int
  | 11 => .int
  | 12 => .int
  | 13 => .array .int
  | 14 => .array .int
  | 15 => .array .int
  | _ => .array .int
theorem pm_nm5 : ∀ a, a < 17 → ∀ b, b < 17 → a ≠ b → (pm_T5 a).2.1 ≠ (pm_T5 b).2.1 := by decide +kernel
theorem pm_tyo5 : ∀ k, k < 17 → parseFieldDescriptor (pm_T5 k).2.2.1 = some (pm_ty5 k) := by decide +kernel
def pm_cl : List vw_C := [("RoommateHouse", pm_T0, 4), ("RoommateHouse$Wishes", pm_T1, 6), ("RoommateHouse$Draft", pm_T2, 2), ("RoommateHouse$StableMatchings", pm_T3, 6), ("RoommateHouse$Partition", pm_T4, 7), ("RoommateHouseModel", pm_T5, 17)]
def pm_nf : Nat → Nat := fun c => match c with
  | 0 => 4
  | 1 => 6
  | 2 => 2
  | 3 => 6
  | 4 => 7
  | _ => 17
def pm_rfl : Nat → List Bool := fun c => match c with
  | 0 => [true, true, true, true]
  | 1 => [true, true, true, true, false, false]
  | 2 => [true, true]
  | 3 => [true, true, true, true, false, false]
  | 4 => [true, true, true, true, false, false, false]
  | _ => [false, false, true, true, true, false, false, true, true, true, true, false, false, true, true, true, true]
def pm_rf (c j : Nat) : Bool := (pm_rfl c).getD j false
def pm_gw : Cond → Bool
  | .methodLinkNest _ _ _ _ => true
  | .castable _ _ => true
  | .declares _ => true
  | w => goodWord w
theorem pm_at {args a' : Array Value} {s U : State} (hW : s.WarmedH U.vm) {w : Cond} (hg : pm_gw w = true) (h : w.before args s = true) : w.before a' U = true := by
  cases w with
  | methodLinkNest a i x t => exact va_Nw.use rfl (va_Nw.warmM hW (va_Nw.of rfl h))
  | castable a t => exact va_Nw.use rfl (va_Nw.warmC hW (va_Nw.of rfl h))
  | declares a => exact va_Nw.use rfl (va_Nw.warmD hW (va_Nw.of rfl h))
  | _ => exact word_at hW (good_of_word hg) h
def pm_words : List Cond := lw_tbl.filter pm_gw
theorem pm_good (w : Cond) (h : w ∈ pm_words) : pm_gw w = true := (List.mem_filter.mp h).2
theorem pm_mem (i : Nat) {w : Cond} (h : lw_tbl[i]? = some w) (hg : pm_gw w = true) : w ∈ pm_words := List.mem_filter.mpr ⟨List.mem_of_getElem? h, hg⟩
theorem pm_uw0 : ∀ w ∈ u_ws "RoommateHouse" pm_T0 4, w ∈ pm_words := List.forall_mem_cons.mpr ⟨pm_mem 174 (by decide +kernel) (by decide +kernel), List.forall_mem_cons.mpr ⟨pm_mem 176 (by decide +kernel) (by decide +kernel), List.forall_mem_cons.mpr ⟨pm_mem 178 (by decide +kernel) (by decide +kernel), List.forall_mem_cons.mpr ⟨pm_mem 180 (by decide +kernel) (by decide +kernel), fun _ h => absurd h List.not_mem_nil⟩⟩⟩⟩
theorem pm_uw1 : ∀ w ∈ u_ws "RoommateHouse$Wishes" pm_T1 6, w ∈ pm_words := List.forall_mem_cons.mpr ⟨pm_mem 77 (by decide +kernel) (by decide +kernel), List.forall_mem_cons.mpr ⟨pm_mem 79 (by decide +kernel) (by decide +kernel), List.forall_mem_cons.mpr ⟨pm_mem 81 (by decide +kernel) (by decide +kernel), List.forall_mem_cons.mpr ⟨pm_mem 83 (by decide +kernel) (by decide +kernel), List.forall_mem_cons.mpr ⟨pm_mem 85 (by decide +kernel) (by decide +kernel), List.forall_mem_cons.mpr ⟨pm_mem 87 (by decide +kernel) (by decide +kernel), fun _ h => absurd h List.not_mem_nil⟩⟩⟩⟩⟩⟩
theorem pm_uw2 : ∀ w ∈ u_ws "RoommateHouse$Draft" pm_T2 2, w ∈ pm_words := List.forall_mem_cons.mpr ⟨pm_mem 99 (by decide +kernel) (by decide +kernel), List.forall_mem_cons.mpr ⟨pm_mem 101 (by decide +kernel) (by decide +kernel), fun _ h => absurd h List.not_mem_nil⟩⟩
theorem pm_uw3 : ∀ w ∈ u_ws "RoommateHouse$StableMatchings" pm_T3 6, w ∈ pm_words := List.forall_mem_cons.mpr ⟨pm_mem 117 (by decide +kernel) (by decide +kernel), List.forall_mem_cons.mpr ⟨pm_mem 119 (by decide +kernel) (by decide +kernel), List.forall_mem_cons.mpr ⟨pm_mem 121 (by decide +kernel) (by decide +kernel), List.forall_mem_cons.mpr ⟨pm_mem 123 (by decide +kernel) (by decide +kernel), List.forall_mem_cons.mpr ⟨pm_mem 125 (by decide +kernel) (by decide +kernel), List.forall_mem_cons.mpr ⟨pm_mem 127 (by decide +kernel) (by decide +kernel), fun _ h => absurd h List.not_mem_nil⟩⟩⟩⟩⟩⟩
theorem pm_uw4 : ∀ w ∈ u_ws "RoommateHouse$Partition" pm_T4 7, w ∈ pm_words := List.forall_mem_cons.mpr ⟨pm_mem 143 (by decide +kernel) (by decide +kernel), List.forall_mem_cons.mpr ⟨pm_mem 145 (by decide +kernel) (by decide +kernel), List.forall_mem_cons.mpr ⟨pm_mem 147 (by decide +kernel) (by decide +kernel), List.forall_mem_cons.mpr ⟨pm_mem 149 (by decide +kernel) (by decide +kernel), List.forall_mem_cons.mpr ⟨pm_mem 151 (by decide +kernel) (by decide +kernel), List.forall_mem_cons.mpr ⟨pm_mem 153 (by decide +kernel) (by decide +kernel), List.forall_mem_cons.mpr ⟨pm_mem 155 (by decide +kernel) (by decide +kernel), fun _ h => absurd h List.not_mem_nil⟩⟩⟩⟩⟩⟩⟩
theorem pm_uw5 : ∀ w ∈ u_ws "RoommateHouseModel" pm_T5 17, w ∈ pm_words := List.forall_mem_cons.mpr ⟨pm_mem 615 (by decide +kernel) (by decide +kernel), List.forall_mem_cons.mpr ⟨pm_mem 617 (by decide +kernel) (by decide +kernel), List.forall_mem_cons.mpr ⟨pm_mem 619 (by decide +kernel) (by decide +kernel), List.forall_mem_cons.mpr ⟨pm_mem 621 (by decide +kernel) (by decide +kernel), List.forall_mem_cons.mpr ⟨pm_mem 623 (by decide +kernel) (by decide +kernel), List.forall_mem_cons.mpr ⟨pm_mem 625 (by decide +kernel) (by decide +kernel), List.forall_mem_cons.mpr ⟨pm_mem 627 (by decide +kernel) (by decide +kernel), List.forall_mem_cons.mpr ⟨pm_mem 629 (by decide +kernel) (by decide +kernel), List.forall_mem_cons.mpr ⟨pm_mem 631 (by decide +kernel) (by decide +kernel), List.forall_mem_cons.mpr ⟨pm_mem 633 (by decide +kernel) (by decide +kernel), List.forall_mem_cons.mpr ⟨pm_mem 635 (by decide +kernel) (by decide +kernel), List.forall_mem_cons.mpr ⟨pm_mem 637 (by decide +kernel) (by decide +kernel), List.forall_mem_cons.mpr ⟨pm_mem 639 (by decide +kernel) (by decide +kernel), List.forall_mem_cons.mpr ⟨pm_mem 641 (by decide +kernel) (by decide +kernel), List.forall_mem_cons.mpr ⟨pm_mem 643 (by decide +kernel) (by decide +kernel), List.forall_mem_cons.mpr ⟨pm_mem 645 (by decide +kernel) (by decide +kernel), List.forall_mem_cons.mpr ⟨pm_mem 647 (by decide +kernel) (by decide +kernel), fun _ h => absurd h List.not_mem_nil⟩⟩⟩⟩⟩⟩⟩⟩⟩⟩⟩⟩⟩⟩⟩⟩⟩
