section
-- ===== PART A: goes FIRST, ahead of the names: the tables' words, and 'selects' of the private methods out of them =====
/-- a private method of a class that the tables say can be made, by its rows of tables_1 -/
def lw_okq (q : MethodName × Nat) : Prop := (q.1.cls ≠ "java/lang/invoke/MethodHandle" ∧ q.1.cls ≠ "java/lang/invoke/VarHandle") ∧ Cond.instantiable q.1.cls q.2 ∈ tables_1 ∧ Cond.privateMethod q.1 ∈ tables_1 ∧ Cond.instanceMethod q.1 ∈ tables_1
theorem lw_p0 : lw_okq (⟨"RoommateHouse", "startWith", "(I)V"⟩, 4) := ⟨⟨by decide +kernel, by decide +kernel⟩, List.mem_of_getElem? (i := 14) (by decide +kernel), List.mem_of_getElem? (i := 117) (by decide +kernel), List.mem_of_getElem? (i := 118) (by decide +kernel)⟩
theorem lw_p1 : lw_okq (⟨"RoommateHouse$Draft", "makeSingle", "(I)V"⟩, 2) := ⟨⟨by decide +kernel, by decide +kernel⟩, List.mem_of_getElem? (i := 50) (by decide +kernel), List.mem_of_getElem? (i := 170) (by decide +kernel), List.mem_of_getElem? (i := 171) (by decide +kernel)⟩
theorem lw_p2 : lw_okq (⟨"RoommateHouse$StableMatchings", "reckon", "()V"⟩, 6) := ⟨⟨by decide +kernel, by decide +kernel⟩, List.mem_of_getElem? (i := 63) (by decide +kernel), List.mem_of_getElem? (i := 182) (by decide +kernel), List.mem_of_getElem? (i := 183) (by decide +kernel)⟩
theorem lw_p3 : lw_okq (⟨"RoommateHouse$StableMatchings", "search", "(I)V"⟩, 6) := ⟨⟨by decide +kernel, by decide +kernel⟩, List.mem_of_getElem? (i := 63) (by decide +kernel), List.mem_of_getElem? (i := 190) (by decide +kernel), List.mem_of_getElem? (i := 191) (by decide +kernel)⟩
theorem lw_p4 : lw_okq (⟨"RoommateHouse$StableMatchings", "keep", "()V"⟩, 6) := ⟨⟨by decide +kernel, by decide +kernel⟩, List.mem_of_getElem? (i := 63) (by decide +kernel), List.mem_of_getElem? (i := 195) (by decide +kernel), List.mem_of_getElem? (i := 196) (by decide +kernel)⟩
theorem lw_p5 : lw_okq (⟨"RoommateHouse$StableMatchings", "searchWith", "(II)V"⟩, 6) := ⟨⟨by decide +kernel, by decide +kernel⟩, List.mem_of_getElem? (i := 63) (by decide +kernel), List.mem_of_getElem? (i := 211) (by decide +kernel), List.mem_of_getElem? (i := 212) (by decide +kernel)⟩
theorem lw_p6 : lw_okq (⟨"RoommateHouse$Partition", "reckon", "()V"⟩, 7) := ⟨⟨by decide +kernel, by decide +kernel⟩, List.mem_of_getElem? (i := 89) (by decide +kernel), List.mem_of_getElem? (i := 228) (by decide +kernel), List.mem_of_getElem? (i := 229) (by decide +kernel)⟩
theorem lw_p7 : lw_okq (⟨"RoommateHouse$Partition", "search", "(I)Z"⟩, 7) := ⟨⟨by decide +kernel, by decide +kernel⟩, List.mem_of_getElem? (i := 89) (by decide +kernel), List.mem_of_getElem? (i := 233) (by decide +kernel), List.mem_of_getElem? (i := 234) (by decide +kernel)⟩
theorem lw_p8 : lw_okq (⟨"RoommateHouse$Partition", "searchWith", "(II)Z"⟩, 7) := ⟨⟨by decide +kernel, by decide +kernel⟩, List.mem_of_getElem? (i := 89) (by decide +kernel), List.mem_of_getElem? (i := 241) (by decide +kernel), List.mem_of_getElem? (i := 242) (by decide +kernel)⟩
theorem lw_p9 : lw_okq (⟨"RoommateHouse$Partition", "keepsOrder", "(I)Z"⟩, 7) := ⟨⟨by decide +kernel, by decide +kernel⟩, List.mem_of_getElem? (i := 89) (by decide +kernel), List.mem_of_getElem? (i := 245) (by decide +kernel), List.mem_of_getElem? (i := 246) (by decide +kernel)⟩
theorem lw_p10 : lw_okq (⟨"RoommateHouse$Partition", "measureAll", "()V"⟩, 7) := ⟨⟨by decide +kernel, by decide +kernel⟩, List.mem_of_getElem? (i := 89) (by decide +kernel), List.mem_of_getElem? (i := 254) (by decide +kernel), List.mem_of_getElem? (i := 255) (by decide +kernel)⟩
theorem lw_p11 : lw_okq (⟨"RoommateHouse$Partition", "sizeRound", "(I)I"⟩, 7) := ⟨⟨by decide +kernel, by decide +kernel⟩, List.mem_of_getElem? (i := 89) (by decide +kernel), List.mem_of_getElem? (i := 258) (by decide +kernel), List.mem_of_getElem? (i := 259) (by decide +kernel)⟩
theorem lw_p12 : lw_okq (⟨"RoommateHouse$Partition", "countParty", "(II)V"⟩, 7) := ⟨⟨by decide +kernel, by decide +kernel⟩, List.mem_of_getElem? (i := 89) (by decide +kernel), List.mem_of_getElem? (i := 262) (by decide +kernel), List.mem_of_getElem? (i := 263) (by decide +kernel)⟩
theorem lw_p13 : lw_okq (⟨"RoommateHouse$Draft", "isAstray", "(I)Z"⟩, 2) := ⟨⟨by decide +kernel, by decide +kernel⟩, List.mem_of_getElem? (i := 50) (by decide +kernel), List.mem_of_getElem? (i := 283) (by decide +kernel), List.mem_of_getElem? (i := 284) (by decide +kernel)⟩
theorem lw_p14 : lw_okq (⟨"java/lang/Throwable", "fillInStackTrace", "(I)Ljava/lang/Throwable;"⟩, 6) := ⟨⟨by decide +kernel, by decide +kernel⟩, List.mem_of_getElem? (i := 334) (by decide +kernel), List.mem_of_getElem? (i := 332) (by decide +kernel), List.mem_of_getElem? (i := 333) (by decide +kernel)⟩
theorem lw_p15 : lw_okq (⟨"RoommateHouse", "demandPersons", "(II)V"⟩, 4) := ⟨⟨by decide +kernel, by decide +kernel⟩, List.mem_of_getElem? (i := 14) (by decide +kernel), List.mem_of_getElem? (i := 368) (by decide +kernel), List.mem_of_getElem? (i := 369) (by decide +kernel)⟩
def lw_privs_1 : List (MethodName × Nat) := [(⟨"RoommateHouse", "startWith", "(I)V"⟩, 4), (⟨"RoommateHouse$Draft", "makeSingle", "(I)V"⟩, 2), (⟨"RoommateHouse$StableMatchings", "reckon", "()V"⟩, 6), (⟨"RoommateHouse$StableMatchings", "search", "(I)V"⟩, 6), (⟨"RoommateHouse$StableMatchings", "keep", "()V"⟩, 6), (⟨"RoommateHouse$StableMatchings", "searchWith", "(II)V"⟩, 6), (⟨"RoommateHouse$Partition", "reckon", "()V"⟩, 7), (⟨"RoommateHouse$Partition", "search", "(I)Z"⟩, 7), (⟨"RoommateHouse$Partition", "searchWith", "(II)Z"⟩, 7), (⟨"RoommateHouse$Partition", "keepsOrder", "(I)Z"⟩, 7), (⟨"RoommateHouse$Partition", "measureAll", "()V"⟩, 7), (⟨"RoommateHouse$Partition", "sizeRound", "(I)I"⟩, 7), (⟨"RoommateHouse$Partition", "countParty", "(II)V"⟩, 7), (⟨"RoommateHouse$Draft", "isAstray", "(I)Z"⟩, 2), (⟨"java/lang/Throwable", "fillInStackTrace", "(I)Ljava/lang/Throwable;"⟩, 6), (⟨"RoommateHouse", "demandPersons", "(II)V"⟩, 4)]
theorem lw_r1 : ∀ q ∈ lw_privs_1, lw_okq q := List.forall_mem_cons.mpr ⟨lw_p0, List.forall_mem_cons.mpr ⟨lw_p1, List.forall_mem_cons.mpr ⟨lw_p2, List.forall_mem_cons.mpr ⟨lw_p3, List.forall_mem_cons.mpr ⟨lw_p4, List.forall_mem_cons.mpr ⟨lw_p5, List.forall_mem_cons.mpr ⟨lw_p6, List.forall_mem_cons.mpr ⟨lw_p7, List.forall_mem_cons.mpr ⟨lw_p8, List.forall_mem_cons.mpr ⟨lw_p9, List.forall_mem_cons.mpr ⟨lw_p10, List.forall_mem_cons.mpr ⟨lw_p11, List.forall_mem_cons.mpr ⟨lw_p12, List.forall_mem_cons.mpr ⟨lw_p13, List.forall_mem_cons.mpr ⟨lw_p14, List.forall_mem_cons.mpr ⟨lw_p15, fun _ h => absurd h List.not_mem_nil⟩⟩⟩⟩⟩⟩⟩⟩⟩⟩⟩⟩⟩⟩⟩⟩
theorem lw_p16 : lw_okq (⟨"RoommateHouse", "demandPerson", "(I)V"⟩, 4) := ⟨⟨by decide +kernel, by decide +kernel⟩, List.mem_of_getElem? (i := 14) (by decide +kernel), List.mem_of_getElem? (i := 372) (by decide +kernel), List.mem_of_getElem? (i := 373) (by decide +kernel)⟩
theorem lw_p17 : lw_okq (⟨"RoommateHouse$Wishes", "set", "(III)V"⟩, 6) := ⟨⟨by decide +kernel, by decide +kernel⟩, List.mem_of_getElem? (i := 22) (by decide +kernel), List.mem_of_getElem? (i := 414) (by decide +kernel), List.mem_of_getElem? (i := 415) (by decide +kernel)⟩
theorem lw_p18 : lw_okq (⟨"RoommateHouse$Wishes", "noteChange", "(I)V"⟩, 6) := ⟨⟨by decide +kernel, by decide +kernel⟩, List.mem_of_getElem? (i := 22) (by decide +kernel), List.mem_of_getElem? (i := 418) (by decide +kernel), List.mem_of_getElem? (i := 419) (by decide +kernel)⟩
theorem lw_p19 : lw_okq (⟨"RoommateHouse", "demandPlace", "(II)V"⟩, 4) := ⟨⟨by decide +kernel, by decide +kernel⟩, List.mem_of_getElem? (i := 14) (by decide +kernel), List.mem_of_getElem? (i := 430) (by decide +kernel), List.mem_of_getElem? (i := 431) (by decide +kernel)⟩
theorem lw_p20 : lw_okq (⟨"RoommateHouse$Wishes", "slide", "(III)V"⟩, 6) := ⟨⟨by decide +kernel, by decide +kernel⟩, List.mem_of_getElem? (i := 22) (by decide +kernel), List.mem_of_getElem? (i := 439) (by decide +kernel), List.mem_of_getElem? (i := 440) (by decide +kernel)⟩
theorem lw_p21 : lw_okq (⟨"RoommateHouseModel", "isPerson", "(I)Z"⟩, 17) := ⟨⟨by decide +kernel, by decide +kernel⟩, List.mem_of_getElem? (i := 551) (by decide +kernel), List.mem_of_getElem? (i := 621) (by decide +kernel), List.mem_of_getElem? (i := 622) (by decide +kernel)⟩
theorem lw_p22 : lw_okq (⟨"RoommateHouseModel", "placeOf", "(II)I"⟩, 17) := ⟨⟨by decide +kernel, by decide +kernel⟩, List.mem_of_getElem? (i := 551) (by decide +kernel), List.mem_of_getElem? (i := 625) (by decide +kernel), List.mem_of_getElem? (i := 626) (by decide +kernel)⟩
theorem lw_p23 : lw_okq (⟨"RoommateHouseModel", "change", "()V"⟩, 17) := ⟨⟨by decide +kernel, by decide +kernel⟩, List.mem_of_getElem? (i := 551) (by decide +kernel), List.mem_of_getElem? (i := 629) (by decide +kernel), List.mem_of_getElem? (i := 630) (by decide +kernel)⟩
theorem lw_p24 : lw_okq (⟨"RoommateHouseModel", "mayBe", "(II)Z"⟩, 17) := ⟨⟨by decide +kernel, by decide +kernel⟩, List.mem_of_getElem? (i := 551) (by decide +kernel), List.mem_of_getElem? (i := 633) (by decide +kernel), List.mem_of_getElem? (i := 634) (by decide +kernel)⟩
theorem lw_p25 : lw_okq (⟨"RoommateHouseModel", "isPlace", "(II)Z"⟩, 17) := ⟨⟨by decide +kernel, by decide +kernel⟩, List.mem_of_getElem? (i := 551) (by decide +kernel), List.mem_of_getElem? (i := 641) (by decide +kernel), List.mem_of_getElem? (i := 642) (by decide +kernel)⟩
theorem lw_p26 : lw_okq (⟨"RoommateHouseModel", "join", "(II)V"⟩, 17) := ⟨⟨by decide +kernel, by decide +kernel⟩, List.mem_of_getElem? (i := 551) (by decide +kernel), List.mem_of_getElem? (i := 661) (by decide +kernel), List.mem_of_getElem? (i := 662) (by decide +kernel)⟩
theorem lw_p27 : lw_okq (⟨"RoommateHouseModel", "blockingOf", "([I)I"⟩, 17) := ⟨⟨by decide +kernel, by decide +kernel⟩, List.mem_of_getElem? (i := 551) (by decide +kernel), List.mem_of_getElem? (i := 665) (by decide +kernel), List.mem_of_getElem? (i := 666) (by decide +kernel)⟩
theorem lw_p28 : lw_okq (⟨"RoommateHouseModel", "blocks", "(II[I)Z"⟩, 17) := ⟨⟨by decide +kernel, by decide +kernel⟩, List.mem_of_getElem? (i := 551) (by decide +kernel), List.mem_of_getElem? (i := 669) (by decide +kernel), List.mem_of_getElem? (i := 670) (by decide +kernel)⟩
theorem lw_p29 : lw_okq (⟨"RoommateHouseModel", "prefers", "(III)Z"⟩, 17) := ⟨⟨by decide +kernel, by decide +kernel⟩, List.mem_of_getElem? (i := 551) (by decide +kernel), List.mem_of_getElem? (i := 673) (by decide +kernel), List.mem_of_getElem? (i := 674) (by decide +kernel)⟩
theorem lw_p30 : lw_okq (⟨"RoommateHouseModel", "learn", "()V"⟩, 17) := ⟨⟨by decide +kernel, by decide +kernel⟩, List.mem_of_getElem? (i := 551) (by decide +kernel), List.mem_of_getElem? (i := 693) (by decide +kernel), List.mem_of_getElem? (i := 694) (by decide +kernel)⟩
theorem lw_p31 : lw_okq (⟨"RoommateHouseModel", "goThrough", "(Z)V"⟩, 17) := ⟨⟨by decide +kernel, by decide +kernel⟩, List.mem_of_getElem? (i := 551) (by decide +kernel), List.mem_of_getElem? (i := 697) (by decide +kernel), List.mem_of_getElem? (i := 698) (by decide +kernel)⟩
def lw_privs_2 : List (MethodName × Nat) := [(⟨"RoommateHouse", "demandPerson", "(I)V"⟩, 4), (⟨"RoommateHouse$Wishes", "set", "(III)V"⟩, 6), (⟨"RoommateHouse$Wishes", "noteChange", "(I)V"⟩, 6), (⟨"RoommateHouse", "demandPlace", "(II)V"⟩, 4), (⟨"RoommateHouse$Wishes", "slide", "(III)V"⟩, 6), (⟨"RoommateHouseModel", "isPerson", "(I)Z"⟩, 17), (⟨"RoommateHouseModel", "placeOf", "(II)I"⟩, 17), (⟨"RoommateHouseModel", "change", "()V"⟩, 17), (⟨"RoommateHouseModel", "mayBe", "(II)Z"⟩, 17), (⟨"RoommateHouseModel", "isPlace", "(II)Z"⟩, 17), (⟨"RoommateHouseModel", "join", "(II)V"⟩, 17), (⟨"RoommateHouseModel", "blockingOf", "([I)I"⟩, 17), (⟨"RoommateHouseModel", "blocks", "(II[I)Z"⟩, 17), (⟨"RoommateHouseModel", "prefers", "(III)Z"⟩, 17), (⟨"RoommateHouseModel", "learn", "()V"⟩, 17), (⟨"RoommateHouseModel", "goThrough", "(Z)V"⟩, 17)]
theorem lw_r2 : ∀ q ∈ lw_privs_2, lw_okq q := List.forall_mem_cons.mpr ⟨lw_p16, List.forall_mem_cons.mpr ⟨lw_p17, List.forall_mem_cons.mpr ⟨lw_p18, List.forall_mem_cons.mpr ⟨lw_p19, List.forall_mem_cons.mpr ⟨lw_p20, List.forall_mem_cons.mpr ⟨lw_p21, List.forall_mem_cons.mpr ⟨lw_p22, List.forall_mem_cons.mpr ⟨lw_p23, List.forall_mem_cons.mpr ⟨lw_p24, List.forall_mem_cons.mpr ⟨lw_p25, List.forall_mem_cons.mpr ⟨lw_p26, List.forall_mem_cons.mpr ⟨lw_p27, List.forall_mem_cons.mpr ⟨lw_p28, List.forall_mem_cons.mpr ⟨lw_p29, List.forall_mem_cons.mpr ⟨lw_p30, List.forall_mem_cons.mpr ⟨lw_p31, fun _ h => absurd h List.not_mem_nil⟩⟩⟩⟩⟩⟩⟩⟩⟩⟩⟩⟩⟩⟩⟩⟩
theorem lw_p32 : lw_okq (⟨"RoommateHouseModel", "look", "(Z)Z"⟩, 17) := ⟨⟨by decide +kernel, by decide +kernel⟩, List.mem_of_getElem? (i := 551) (by decide +kernel), List.mem_of_getElem? (i := 701) (by decide +kernel), List.mem_of_getElem? (i := 702) (by decide +kernel)⟩
theorem lw_p33 : lw_okq (⟨"RoommateHouseModel", "isPartition", "()Z"⟩, 17) := ⟨⟨by decide +kernel, by decide +kernel⟩, List.mem_of_getElem? (i := 551) (by decide +kernel), List.mem_of_getElem? (i := 705) (by decide +kernel), List.mem_of_getElem? (i := 706) (by decide +kernel)⟩
theorem lw_p34 : lw_okq (⟨"RoommateHouseModel", "isStable", "([I)Z"⟩, 17) := ⟨⟨by decide +kernel, by decide +kernel⟩, List.mem_of_getElem? (i := 551) (by decide +kernel), List.mem_of_getElem? (i := 709) (by decide +kernel), List.mem_of_getElem? (i := 710) (by decide +kernel)⟩
theorem lw_p35 : lw_okq (⟨"RoommateHouseModel", "wouldLeave", "(II[I)Z"⟩, 17) := ⟨⟨by decide +kernel, by decide +kernel⟩, List.mem_of_getElem? (i := 551) (by decide +kernel), List.mem_of_getElem? (i := 713) (by decide +kernel), List.mem_of_getElem? (i := 714) (by decide +kernel)⟩
theorem lw_p36 : lw_okq (⟨"RoommateHouseModel", "takesParties", "()Z"⟩, 17) := ⟨⟨by decide +kernel, by decide +kernel⟩, List.mem_of_getElem? (i := 551) (by decide +kernel), List.mem_of_getElem? (i := 717) (by decide +kernel), List.mem_of_getElem? (i := 718) (by decide +kernel)⟩
theorem lw_p37 : lw_okq (⟨"RoommateHouseModel", "forget", "(IZ)V"⟩, 17) := ⟨⟨by decide +kernel, by decide +kernel⟩, List.mem_of_getElem? (i := 551) (by decide +kernel), List.mem_of_getElem? (i := 721) (by decide +kernel), List.mem_of_getElem? (i := 722) (by decide +kernel)⟩
theorem lw_p38 : lw_okq (⟨"RoommateHouseModel", "nextChoice", "(IIZ)I"⟩, 17) := ⟨⟨by decide +kernel, by decide +kernel⟩, List.mem_of_getElem? (i := 551) (by decide +kernel), List.mem_of_getElem? (i := 725) (by decide +kernel), List.mem_of_getElem? (i := 726) (by decide +kernel)⟩
theorem lw_p39 : lw_okq (⟨"RoommateHouseModel", "chosen", "(II)I"⟩, 17) := ⟨⟨by decide +kernel, by decide +kernel⟩, List.mem_of_getElem? (i := 551) (by decide +kernel), List.mem_of_getElem? (i := 729) (by decide +kernel), List.mem_of_getElem? (i := 730) (by decide +kernel)⟩
theorem lw_p40 : lw_okq (⟨"RoommateHouseModel", "goes", "(IIZ)Z"⟩, 17) := ⟨⟨by decide +kernel, by decide +kernel⟩, List.mem_of_getElem? (i := 551) (by decide +kernel), List.mem_of_getElem? (i := 733) (by decide +kernel), List.mem_of_getElem? (i := 734) (by decide +kernel)⟩
theorem lw_p41 : lw_okq (⟨"RoommateHouseModel", "mayStay", "(II)Z"⟩, 17) := ⟨⟨by decide +kernel, by decide +kernel⟩, List.mem_of_getElem? (i := 551) (by decide +kernel), List.mem_of_getElem? (i := 737) (by decide +kernel), List.mem_of_getElem? (i := 738) (by decide +kernel)⟩
def lw_privs_3 : List (MethodName × Nat) := [(⟨"RoommateHouseModel", "look", "(Z)Z"⟩, 17), (⟨"RoommateHouseModel", "isPartition", "()Z"⟩, 17), (⟨"RoommateHouseModel", "isStable", "([I)Z"⟩, 17), (⟨"RoommateHouseModel", "wouldLeave", "(II[I)Z"⟩, 17), (⟨"RoommateHouseModel", "takesParties", "()Z"⟩, 17), (⟨"RoommateHouseModel", "forget", "(IZ)V"⟩, 17), (⟨"RoommateHouseModel", "nextChoice", "(IIZ)I"⟩, 17), (⟨"RoommateHouseModel", "chosen", "(II)I"⟩, 17), (⟨"RoommateHouseModel", "goes", "(IIZ)Z"⟩, 17), (⟨"RoommateHouseModel", "mayStay", "(II)Z"⟩, 17)]
theorem lw_r3 : ∀ q ∈ lw_privs_3, lw_okq q := List.forall_mem_cons.mpr ⟨lw_p32, List.forall_mem_cons.mpr ⟨lw_p33, List.forall_mem_cons.mpr ⟨lw_p34, List.forall_mem_cons.mpr ⟨lw_p35, List.forall_mem_cons.mpr ⟨lw_p36, List.forall_mem_cons.mpr ⟨lw_p37, List.forall_mem_cons.mpr ⟨lw_p38, List.forall_mem_cons.mpr ⟨lw_p39, List.forall_mem_cons.mpr ⟨lw_p40, List.forall_mem_cons.mpr ⟨lw_p41, fun _ h => absurd h List.not_mem_nil⟩⟩⟩⟩⟩⟩⟩⟩⟩⟩
def lw_privs : List (MethodName × Nat) := lw_privs_1 ++ (lw_privs_2 ++ (lw_privs_3))
def lw_tbl : List Cond := k2_sels lw_privs ++ tables_1
theorem lw_privs_ok : ∀ q ∈ lw_privs, lw_okq q := by
  show ∀ q ∈ lw_privs_1 ++ (lw_privs_2 ++ (lw_privs_3)), lw_okq q
  exact List.forall_mem_append.mpr ⟨lw_r1, List.forall_mem_append.mpr ⟨lw_r2, lw_r3⟩⟩
/-! the kinds of objects, their fields; the words, by their places -/
def pm_T0 : u_T := fun k => match k with
  | 0 => ("RoommateHouse", "wishes", "LRoommateHouse$Wishes;", true)
  | 1 => ("RoommateHouse", "draft", "LRoommateHouse$Draft;", true)
  | 2 => ("RoommateHouse", "stable", "LRoommateHouse$StableMatchings;", true)
  | _ => ("RoommateHouse", "partition", "LRoommateHouse$Partition;", true)
def pm_ty0 : Nat → FieldType := fun k => match k with
  | 0 => .object "RoommateHouse$Wishes"
  | 1 => .object "RoommateHouse$Draft"
  | 2 => .object "RoommateHouse$StableMatchings"
  | _ => .object "RoommateHouse$Partition"
theorem pm_nm0 : ∀ a, a < 4 → ∀ b, b < 4 → a ≠ b → (pm_T0 a).2.1 ≠ (pm_T0 b).2.1 := by decide +kernel
theorem pm_tyo0 : ∀ k, k < 4 → parseFieldDescriptor (pm_T0 k).2.2.1 = some (pm_ty0 k) := by decide +kernel
def pm_T1 : u_T := fun k => match k with
  | 0 => ("RoommateHouse$Wishes", "lengths", "[I", true)
  | 1 => ("RoommateHouse$Wishes", "others", "[[I", true)
  | 2 => ("RoommateHouse$Wishes", "places", "[[I", true)
  | 3 => ("RoommateHouse$Wishes", "standings", "[[I", true)
  | 4 => ("RoommateHouse$Wishes", "count", "I", false)
  | _ => ("RoommateHouse$Wishes", "changes", "I", false)
def pm_ty1 : Nat → FieldType := fun k => match k with
  | 0 => .array .int
  | 1 => .array (.array .int)
  | 2 => .array (.array .int)
  | 3 => .array (.array .int)
  | 4 => .int
  | _ => .int
theorem pm_nm1 : ∀ a, a < 6 → ∀ b, b < 6 → a ≠ b → (pm_T1 a).2.1 ≠ (pm_T1 b).2.1 := by decide +kernel
theorem pm_tyo1 : ∀ k, k < 6 → parseFieldDescriptor (pm_T1 k).2.2.1 = some (pm_ty1 k) := by decide +kernel
def pm_T2 : u_T := fun k => match k with
  | 0 => ("RoommateHouse$Draft", "wishes", "LRoommateHouse$Wishes;", true)
  | _ => ("RoommateHouse$Draft", "mates", "[I", true)
def pm_ty2 : Nat → FieldType := fun k => match k with
  | 0 => .object "RoommateHouse$Wishes"
  | _ => .array .int
theorem pm_nm2 : ∀ a, a < 2 → ∀ b, b < 2 → a ≠ b → (pm_T2 a).2.1 ≠ (pm_T2 b).2.1 := by decide +kernel
theorem pm_tyo2 : ∀ k, k < 2 → parseFieldDescriptor (pm_T2 k).2.2.1 = some (pm_ty2 k) := by decide +kernel
def pm_T3 : u_T := fun k => match k with
  | 0 => ("RoommateHouse$StableMatchings", "wishes", "LRoommateHouse$Wishes;", true)
  | 1 => ("RoommateHouse$StableMatchings", "tried", "[I", true)
  | 2 => ("RoommateHouse$StableMatchings", "first", "[I", true)
  | 3 => ("RoommateHouse$StableMatchings", "often", "[[I", true)
  | 4 => ("RoommateHouse$StableMatchings", "found", "I", false)
  | _ => ("RoommateHouse$StableMatchings", "reckonedAt", "I", false)
def pm_ty3 : Nat → FieldType := fun k => match k with
  | 0 => .object "RoommateHouse$Wishes"
  | 1 => .array .int
  | 2 => .array .int
  | 3 => .array (.array .int)
  | 4 => .int
  | _ => .int
theorem pm_nm3 : ∀ a, a < 6 → ∀ b, b < 6 → a ≠ b → (pm_T3 a).2.1 ≠ (pm_T3 b).2.1 := by decide +kernel
theorem pm_tyo3 : ∀ k, k < 6 → parseFieldDescriptor (pm_T3 k).2.2.1 = some (pm_ty3 k) := by decide +kernel
def pm_T4 : u_T := fun k => match k with
  | 0 => ("RoommateHouse$Partition", "wishes", "LRoommateHouse$Wishes;", true)
  | 1 => ("RoommateHouse$Partition", "followers", "[I", true)
  | 2 => ("RoommateHouse$Partition", "leaders", "[I", true)
  | 3 => ("RoommateHouse$Partition", "oddSizes", "[I", true)
  | 4 => ("RoommateHouse$Partition", "odd", "I", false)
  | 5 => ("RoommateHouse$Partition", "oddRings", "I", false)
  | _ => ("RoommateHouse$Partition", "reckonedAt", "I", false)
def pm_ty4 : Nat → FieldType := fun k => match k with
  | 0 => .object "RoommateHouse$Wishes"
  | 1 => .array .int
  | 2 => .array .int
  | 3 => .array .int
  | 4 => .int
  | 5 => .int
  | _ => .int
theorem pm_nm4 : ∀ a, a < 7 → ∀ b, b < 7 → a ≠ b → (pm_T4 a).2.1 ≠ (pm_T4 b).2.1 := by decide +kernel
theorem pm_tyo4 : ∀ k, k < 7 → parseFieldDescriptor (pm_T4 k).2.2.1 = some (pm_ty4 k) := by decide +kernel
def pm_T5 : u_T := fun k => match k with
  | 0 => ("RoommateHouseModel", "code", "I", false)
  | 1 => ("RoommateHouseModel", "n", "I", false)
  | 2 => ("RoommateHouseModel", "sizes", "[I", true)
  | 3 => ("RoommateHouseModel", "list", "[I", true)
  | 4 => ("RoommateHouseModel", "partners", "[I", true)
  | 5 => ("RoommateHouseModel", "known", "Z", false)
  | 6 => ("RoommateHouseModel", "found", "I", false)
  | 7 => ("RoommateHouseModel", "times", "[I", true)
  | 8 => ("RoommateHouseModel", "first", "[I", true)
  | 9 => ("RoommateHouseModel", "nexts", "[I", true)
  | 10 => ("RoommateHouseModel", "partySize", "[I", true)
  | 11 => ("RoommateHouseModel", "partyCount", "I", false)
  | 12 => ("RoommateHouseModel", "threeCount", "I", false)
  | 13 => ("RoommateHouseModel", "with", "[I", true)
  | 14 => ("RoommateHouseModel", "lasts", "[I", true)
  | 15 => ("RoommateHouseModel", "choices", "[I", true)
  | _ => ("RoommateHouseModel", "ranks", "[I", true)
def pm_ty5 : Nat → FieldType := fun k => match k with
  | 0 => .int
  | 1 => .int
  | 2 => .array .int
  | 3 => .array .int
  | 4 => .array .int
  | 5 => .boolean
  | 6 => .int
  | 7 => .array .int
  | 8 => .array .int
  | 9 => .array .int
  | 10 => .array .int
  | 11 => .int
  | 12 => .int
  | 13 => .array .int
  | 14 => .array .int
  | 15 => .array .int
  | _ => .array .int
theorem pm_nm5 : ∀ a, a < 17 → ∀ b, b < 17 → a ≠ b → (pm_T5 a).2.1 ≠ (pm_T5 b).2.1 := by decide +kernel
theorem pm_tyo5 : ∀ k, k < 17 → parseFieldDescriptor (pm_T5 k).2.2.1 = some (pm_ty5 k) := by decide +kernel
def pm_cl : List vw_C := [("RoommateHouse", pm_T0, 4), ("RoommateHouse$Wishes", pm_T1, 6), ("RoommateHouse$Draft", pm_T2, 2), ("RoommateHouse$StableMatchings", pm_T3, 6), ("RoommateHouse$Partition", pm_T4, 7), ("RoommateHouseModel", pm_T5, 17)]
def pm_nf : Nat → Nat := fun c => match c with
  | 0 => 4
  | 1 => 6
  | 2 => 2
  | 3 => 6
  | 4 => 7
  | _ => 17
def pm_rfl : Nat → List Bool := fun c => match c with
  | 0 => [true, true, true, true]
  | 1 => [true, true, true, true, false, false]
  | 2 => [true, true]
  | 3 => [true, true, true, true, false, false]
  | 4 => [true, true, true, true, false, false, false]
  | _ => [false, false, true, true, true, false, false, true, true, true, true, false, false, true, true, true, true]
def pm_rf (c j : Nat) : Bool := (pm_rfl c).getD j false
def pm_gw : Cond → Bool
  | .methodLinkNest _ _ _ _ => true
  | .castable _ _ => true
  | .declares _ => true
  | w => goodWord w
theorem pm_at {args a' : Array Value} {s U : State} (hW : s.WarmedH U.vm) {w : Cond} (hg : pm_gw w = true) (h : w.before args s = true) : w.before a' U = true := by
  cases w with
  | methodLinkNest a i x t => exact va_Nw.use rfl (va_Nw.warmM hW (va_Nw.of rfl h))
  | castable a t => exact va_Nw.use rfl (va_Nw.warmC hW (va_Nw.of rfl h))
  | declares a => exact va_Nw.use rfl (va_Nw.warmD hW (va_Nw.of rfl h))
  | _ => exact word_at hW (good_of_word hg) h
def pm_words : List Cond := lw_tbl.filter pm_gw
theorem pm_good (w : Cond) (h : w ∈ pm_words) : pm_gw w = true := (List.mem_filter.mp h).2
theorem pm_mem (i : Nat) {w : Cond} (h : lw_tbl[i]? = some w) (hg : pm_gw w = true) : w ∈ pm_words := List.mem_filter.mpr ⟨List.mem_of_getElem? h, hg⟩
theorem pm_uw0 : ∀ w ∈ u_ws "RoommateHouse" pm_T0 4, w ∈ pm_words := List.forall_mem_cons.mpr ⟨pm_mem 174 (by decide +kernel) (by decide +kernel), List.forall_mem_cons.mpr ⟨pm_mem 176 (by decide +kernel) (by decide +kernel), List.forall_mem_cons.mpr ⟨pm_mem 178 (by decide +kernel) (by decide +kernel), List.forall_mem_cons.mpr ⟨pm_mem 180 (by decide +kernel) (by decide +kernel), fun _ h => absurd h List.not_mem_nil⟩⟩⟩⟩
theorem pm_uw1 : ∀ w ∈ u_ws "RoommateHouse$Wishes" pm_T1 6, w ∈ pm_words := List.forall_mem_cons.mpr ⟨pm_mem 77 (by decide +kernel) (by decide +kernel), List.forall_mem_cons.mpr ⟨pm_mem 79 (by decide +kernel) (by decide +kernel), List.forall_mem_cons.mpr ⟨pm_mem 81 (by decide +kernel) (by decide +kernel), List.forall_mem_cons.mpr ⟨pm_mem 83 (by decide +kernel) (by decide +kernel), List.forall_mem_cons.mpr ⟨pm_mem 85 (by decide +kernel) (by decide +kernel), List.forall_mem_cons.mpr ⟨pm_mem 87 (by decide +kernel) (by decide +kernel), fun _ h => absurd h List.not_mem_nil⟩⟩⟩⟩⟩⟩
theorem pm_uw2 : ∀ w ∈ u_ws "RoommateHouse$Draft" pm_T2 2, w ∈ pm_words := List.forall_mem_cons.mpr ⟨pm_mem 99 (by decide +kernel) (by decide +kernel), List.forall_mem_cons.mpr ⟨pm_mem 101 (by decide +kernel) (by decide +kernel), fun _ h => absurd h List.not_mem_nil⟩⟩
theorem pm_uw3 : ∀ w ∈ u_ws "RoommateHouse$StableMatchings" pm_T3 6, w ∈ pm_words := List.forall_mem_cons.mpr ⟨pm_mem 117 (by decide +kernel) (by decide +kernel), List.forall_mem_cons.mpr ⟨pm_mem 119 (by decide +kernel) (by decide +kernel), List.forall_mem_cons.mpr ⟨pm_mem 121 (by decide +kernel) (by decide +kernel), List.forall_mem_cons.mpr ⟨pm_mem 123 (by decide +kernel) (by decide +kernel), List.forall_mem_cons.mpr ⟨pm_mem 125 (by decide +kernel) (by decide +kernel), List.forall_mem_cons.mpr ⟨pm_mem 127 (by decide +kernel) (by decide +kernel), fun _ h => absurd h List.not_mem_nil⟩⟩⟩⟩⟩⟩
theorem pm_uw4 : ∀ w ∈ u_ws "RoommateHouse$Partition" pm_T4 7, w ∈ pm_words := List.forall_mem_cons.mpr ⟨pm_mem 143 (by decide +kernel) (by decide +kernel), List.forall_mem_cons.mpr ⟨pm_mem 145 (by decide +kernel) (by decide +kernel), List.forall_mem_cons.mpr ⟨pm_mem 147 (by decide +kernel) (by decide +kernel), List.forall_mem_cons.mpr ⟨pm_mem 149 (by decide +kernel) (by decide +kernel), List.forall_mem_cons.mpr ⟨pm_mem 151 (by decide +kernel) (by decide +kernel), List.forall_mem_cons.mpr ⟨pm_mem 153 (by decide +kernel) (by decide +kernel), List.forall_mem_cons.mpr ⟨pm_mem 155 (by decide +kernel) (by decide +kernel), fun _ h => absurd h List.not_mem_nil⟩⟩⟩⟩⟩⟩⟩
theorem pm_uw5 : ∀ w ∈ u_ws "RoommateHouseModel" pm_T5 17, w ∈ pm_words := List.forall_mem_cons.mpr ⟨pm_mem 615 (by decide +kernel) (by decide +kernel), List.forall_mem_cons.mpr ⟨pm_mem 617 (by decide +kernel) (by decide +kernel), List.forall_mem_cons.mpr ⟨pm_mem 619 (by decide +kernel) (by decide +kernel), List.forall_mem_cons.mpr ⟨pm_mem 621 (by decide +kernel) (by decide +kernel), List.forall_mem_cons.mpr ⟨pm_mem 623 (by decide +kernel) (by decide +kernel), List.forall_mem_cons.mpr ⟨pm_mem 625 (by decide +kernel) (by decide +kernel), List.forall_mem_cons.mpr ⟨pm_mem 627 (by decide +kernel) (by decide +kernel), List.forall_mem_cons.mpr ⟨pm_mem 629 (by decide +kernel) (by decide +kernel), List.forall_mem_cons.mpr ⟨pm_mem 631 (by decide +kernel) (by decide +kernel), List.forall_mem_cons.mpr ⟨pm_mem 633 (by decide +kernel) (by decide +kernel), List.forall_mem_cons.mpr ⟨pm_mem 635 (by decide +kernel) (by decide +kernel), List.forall_mem_cons.mpr ⟨pm_mem 637 (by decide +kernel) (by decide +kernel), List.forall_mem_cons.mpr ⟨pm_mem 639 (by decide +kernel) (by decide +kernel), List.forall_mem_cons.mpr ⟨pm_mem 641 (by decide +kernel) (by decide +kernel), List.forall_mem_cons.mpr ⟨pm_mem 643 (by decide +kernel) (by decide +kernel), List.forall_mem_cons.mpr ⟨pm_mem 645 (by decide +kernel) (by decide +kernel), List.forall_mem_cons.mpr ⟨pm_mem 647 (by decide +kernel) (by decide +kernel), fun _ h => absurd h List.not_mem_nil⟩⟩⟩⟩⟩⟩⟩⟩⟩⟩⟩⟩⟩⟩⟩⟩⟩
end
section
/-! the methods -/
abbrev pK : Type := MethodName × ByteArray × Nat × Option FieldType × List (Nat × Nat × Nat × Nat)
def km_H_init : pK := (⟨"RoommateHouse", "<init>", "()V"⟩, prog_1_method_1_code, 1, none, [])
def km_H_people : pK := (⟨"RoommateHouse", "people", "(I)I"⟩, prog_1_method_2_code, 3, (some .int), [])
def km_H_put : pK := (⟨"RoommateHouse", "put", "(II)I"⟩, prog_1_method_3_code, 3, (some .int), [])
def km_H_remove : pK := (⟨"RoommateHouse", "remove", "(II)I"⟩, prog_1_method_4_code, 4, (some .int), [])
def km_H_move : pK := (⟨"RoommateHouse", "move", "(III)I"⟩, prog_1_method_5_code, 4, (some .int), [])
def km_H_at : pK := (⟨"RoommateHouse", "at", "(II)I"⟩, prog_1_method_6_code, 3, (some .int), [])
def km_H_place : pK := (⟨"RoommateHouse", "place", "(II)I"⟩, prog_1_method_7_code, 3, (some .int), [])
def km_H_pair : pK := (⟨"RoommateHouse", "pair", "(II)I"⟩, prog_1_method_8_code, 3, (some .int), [])
def km_H_partner : pK := (⟨"RoommateHouse", "partner", "(I)I"⟩, prog_1_method_9_code, 2, (some .int), [])
def km_H_blocking : pK := (⟨"RoommateHouse", "blocking", "()I"⟩, prog_1_method_10_code, 1, (some .int), [])
def km_H_satisfy : pK := (⟨"RoommateHouse", "satisfy", "()I"⟩, prog_1_method_11_code, 1, (some .int), [])
def km_H_matchings : pK := (⟨"RoommateHouse", "matchings", "()I"⟩, prog_1_method_12_code, 1, (some .int), [])
def km_H_matched : pK := (⟨"RoommateHouse", "matched", "(I)I"⟩, prog_1_method_13_code, 2, (some .int), [])
def km_H_extreme : pK := (⟨"RoommateHouse", "extreme", "(IZ)I"⟩, prog_1_method_14_code, 3, (some .int), [])
def km_H_together : pK := (⟨"RoommateHouse", "together", "(II)I"⟩, prog_1_method_15_code, 3, (some .int), [])
def km_H_party : pK := (⟨"RoommateHouse", "party", "(I)I"⟩, prog_1_method_16_code, 2, (some .int), [])
def km_H_next : pK := (⟨"RoommateHouse", "next", "(I)I"⟩, prog_1_method_17_code, 2, (some .int), [])
def km_H_parties : pK := (⟨"RoommateHouse", "parties", "(Z)I"⟩, prog_1_method_18_code, 2, (some .int), [])
def km_H_size : pK := (⟨"RoommateHouse", "size", "()I"⟩, prog_1_method_19_code, 1, (some .int), [])
def km_H_astray : pK := (⟨"RoommateHouse", "astray", "()I"⟩, prog_1_method_20_code, 1, (some .int), [])
def km_H_startWith : pK := (⟨"RoommateHouse", "startWith", "(I)V"⟩, prog_1_method_21_code, 2, none, [])
def km_H_demandPerson : pK := (⟨"RoommateHouse", "demandPerson", "(I)V"⟩, prog_1_method_22_code, 2, none, [])
def km_H_demandPersons : pK := (⟨"RoommateHouse", "demandPersons", "(II)V"⟩, prog_1_method_23_code, 3, none, [])
def km_H_demandPlace : pK := (⟨"RoommateHouse", "demandPlace", "(II)V"⟩, prog_1_method_24_code, 3, none, [])
def km_W_init : pK := (⟨"RoommateHouse$Wishes", "<init>", "()V"⟩, prog_5_method_1_code, 1, none, [])
def km_W_count : pK := (⟨"RoommateHouse$Wishes", "count", "()I"⟩, prog_5_method_2_code, 1, (some .int), [])
def km_W_changes : pK := (⟨"RoommateHouse$Wishes", "changes", "()I"⟩, prog_5_method_3_code, 1, (some .int), [])
def km_W_length : pK := (⟨"RoommateHouse$Wishes", "length", "(I)I"⟩, prog_5_method_4_code, 2, (some .int), [])
def km_W_otherAt : pK := (⟨"RoommateHouse$Wishes", "otherAt", "(II)I"⟩, prog_5_method_5_code, 3, (some .int), [])
def km_W_placeOf : pK := (⟨"RoommateHouse$Wishes", "placeOf", "(II)I"⟩, prog_5_method_6_code, 3, (some .int), [])
def km_W_clear : pK := (⟨"RoommateHouse$Wishes", "clear", "(I)V"⟩, prog_5_method_7_code, 4, none, [])
def km_W_append : pK := (⟨"RoommateHouse$Wishes", "append", "(II)V"⟩, prog_5_method_8_code, 4, none, [])
def km_W_cut : pK := (⟨"RoommateHouse$Wishes", "cut", "(II)V"⟩, prog_5_method_9_code, 5, none, [])
def km_W_shift : pK := (⟨"RoommateHouse$Wishes", "shift", "(III)V"⟩, prog_5_method_10_code, 4, none, [])
def km_W_slide : pK := (⟨"RoommateHouse$Wishes", "slide", "(III)V"⟩, prog_5_method_11_code, 6, none, [])
def km_W_set : pK := (⟨"RoommateHouse$Wishes", "set", "(III)V"⟩, prog_5_method_12_code, 4, none, [])
def km_W_noteChange : pK := (⟨"RoommateHouse$Wishes", "noteChange", "(I)V"⟩, prog_5_method_13_code, 4, none, [])
def km_W_arePossible : pK := (⟨"RoommateHouse$Wishes", "arePossible", "(II)Z"⟩, prog_5_method_14_code, 3, (some .boolean), [])
def km_W_prefers : pK := (⟨"RoommateHouse$Wishes", "prefers", "(III)Z"⟩, prog_5_method_15_code, 4, (some .boolean), [])
def km_W_wouldBlock : pK := (⟨"RoommateHouse$Wishes", "wouldBlock", "(II[I)Z"⟩, prog_5_method_16_code, 4, (some .boolean), [])
def km_W_wouldBlockWithAny : pK := (⟨"RoommateHouse$Wishes", "wouldBlockWithAny", "(I[I)Z"⟩, prog_5_method_17_code, 4, (some .boolean), [])
def km_D_init : pK := (⟨"RoommateHouse$Draft", "<init>", "(LRoommateHouse$Wishes;)V"⟩, prog_2_method_1_code, 2, none, [])
def km_D_mateOf : pK := (⟨"RoommateHouse$Draft", "mateOf", "(I)I"⟩, prog_2_method_2_code, 2, (some .int), [])
def km_D_makeAllSingle : pK := (⟨"RoommateHouse$Draft", "makeAllSingle", "()V"⟩, prog_2_method_3_code, 2, none, [])
def km_D_join : pK := (⟨"RoommateHouse$Draft", "join", "(II)V"⟩, prog_2_method_4_code, 3, none, [])
def km_D_partIfNotPossible : pK := (⟨"RoommateHouse$Draft", "partIfNotPossible", "(II)V"⟩, prog_2_method_5_code, 3, none, [])
def km_D_makeSingle : pK := (⟨"RoommateHouse$Draft", "makeSingle", "(I)V"⟩, prog_2_method_6_code, 3, none, [])
def km_D_countBlocking : pK := (⟨"RoommateHouse$Draft", "countBlocking", "()I"⟩, prog_2_method_7_code, 4, (some .int), [])
def km_D_joinFirstBlocking : pK := (⟨"RoommateHouse$Draft", "joinFirstBlocking", "()I"⟩, prog_2_method_8_code, 3, (some .int), [])
def km_D_countAstray : pK := (⟨"RoommateHouse$Draft", "countAstray", "()I"⟩, prog_2_method_9_code, 3, (some .int), [])
def km_D_isAstray : pK := (⟨"RoommateHouse$Draft", "isAstray", "(I)Z"⟩, prog_2_method_10_code, 3, (some .boolean), [])
def km_S_init : pK := (⟨"RoommateHouse$StableMatchings", "<init>", "(LRoommateHouse$Wishes;)V"⟩, prog_4_method_1_code, 2, none, [])
def km_S_howMany : pK := (⟨"RoommateHouse$StableMatchings", "howMany", "()I"⟩, prog_4_method_2_code, 1, (some .int), [])
def km_S_mateInFirst : pK := (⟨"RoommateHouse$StableMatchings", "mateInFirst", "(I)I"⟩, prog_4_method_3_code, 2, (some .int), [])
def km_S_howOften : pK := (⟨"RoommateHouse$StableMatchings", "howOften", "(II)I"⟩, prog_4_method_4_code, 3, (some .int), [])
def km_S_bestMate : pK := (⟨"RoommateHouse$StableMatchings", "bestMate", "(I)I"⟩, prog_4_method_5_code, 4, (some .int), [])
def km_S_worstMate : pK := (⟨"RoommateHouse$StableMatchings", "worstMate", "(I)I"⟩, prog_4_method_6_code, 4, (some .int), [])
def km_S_reckon : pK := (⟨"RoommateHouse$StableMatchings", "reckon", "()V"⟩, prog_4_method_7_code, 3, none, [])
def km_S_search : pK := (⟨"RoommateHouse$StableMatchings", "search", "(I)V"⟩, prog_4_method_8_code, 4, none, [])
def km_S_searchWith : pK := (⟨"RoommateHouse$StableMatchings", "searchWith", "(II)V"⟩, prog_4_method_9_code, 3, none, [])
def km_S_keep : pK := (⟨"RoommateHouse$StableMatchings", "keep", "()V"⟩, prog_4_method_10_code, 2, none, [])
def km_P_init : pK := (⟨"RoommateHouse$Partition", "<init>", "(LRoommateHouse$Wishes;)V"⟩, prog_3_method_1_code, 2, none, [])
def km_P_oddSize : pK := (⟨"RoommateHouse$Partition", "oddSize", "(I)I"⟩, prog_3_method_2_code, 2, (some .int), [])
def km_P_follower : pK := (⟨"RoommateHouse$Partition", "follower", "(I)I"⟩, prog_3_method_3_code, 2, (some .int), [])
def km_P_countOdd : pK := (⟨"RoommateHouse$Partition", "countOdd", "()I"⟩, prog_3_method_4_code, 1, (some .int), [])
def km_P_countOddRings : pK := (⟨"RoommateHouse$Partition", "countOddRings", "()I"⟩, prog_3_method_5_code, 1, (some .int), [])
def km_P_reckon : pK := (⟨"RoommateHouse$Partition", "reckon", "()V"⟩, prog_3_method_6_code, 2, none, [])
def km_P_search : pK := (⟨"RoommateHouse$Partition", "search", "(I)Z"⟩, prog_3_method_7_code, 4, (some .boolean), [])
def km_P_searchWith : pK := (⟨"RoommateHouse$Partition", "searchWith", "(II)Z"⟩, prog_3_method_8_code, 3, (some .boolean), [])
def km_P_keepsOrder : pK := (⟨"RoommateHouse$Partition", "keepsOrder", "(I)Z"⟩, prog_3_method_9_code, 4, (some .boolean), [])
def km_P_measureAll : pK := (⟨"RoommateHouse$Partition", "measureAll", "()V"⟩, prog_3_method_10_code, 3, none, [])
def km_P_sizeRound : pK := (⟨"RoommateHouse$Partition", "sizeRound", "(I)I"⟩, prog_3_method_11_code, 4, (some .int), [])
def km_P_countParty : pK := (⟨"RoommateHouse$Partition", "countParty", "(II)V"⟩, prog_3_method_12_code, 5, none, [])
def km_M_init : pK := (⟨"RoommateHouseModel", "<init>", "()V"⟩, prog_7_method_1_code, 1, none, [])
def km_M_thrown : pK := (⟨"RoommateHouseModel", "thrown", "()I"⟩, prog_7_method_2_code, 1, (some .int), [])
def km_M_isPerson : pK := (⟨"RoommateHouseModel", "isPerson", "(I)Z"⟩, prog_7_method_3_code, 2, (some .boolean), [])
def km_M_placeOf : pK := (⟨"RoommateHouseModel", "placeOf", "(II)I"⟩, prog_7_method_4_code, 5, (some .int), [])
def km_M_mayBe : pK := (⟨"RoommateHouseModel", "mayBe", "(II)Z"⟩, prog_7_method_5_code, 3, (some .boolean), [])
def km_M_prefers : pK := (⟨"RoommateHouseModel", "prefers", "(III)Z"⟩, prog_7_method_6_code, 4, (some .boolean), [])
def km_M_change : pK := (⟨"RoommateHouseModel", "change", "()V"⟩, prog_7_method_7_code, 3, none, [])
def km_M_people : pK := (⟨"RoommateHouseModel", "people", "(I)I"⟩, prog_7_method_8_code, 4, (some .int), [])
def km_M_put : pK := (⟨"RoommateHouseModel", "put", "(II)I"⟩, prog_7_method_9_code, 3, (some .int), [])
def km_M_isPlace : pK := (⟨"RoommateHouseModel", "isPlace", "(II)Z"⟩, prog_7_method_10_code, 3, (some .boolean), [])
def km_M_remove : pK := (⟨"RoommateHouseModel", "remove", "(II)I"⟩, prog_7_method_11_code, 5, (some .int), [])
def km_M_move : pK := (⟨"RoommateHouseModel", "move", "(III)I"⟩, prog_7_method_12_code, 7, (some .int), [])
def km_M_at : pK := (⟨"RoommateHouseModel", "at", "(II)I"⟩, prog_7_method_13_code, 3, (some .int), [])
def km_M_place : pK := (⟨"RoommateHouseModel", "place", "(II)I"⟩, prog_7_method_14_code, 3, (some .int), [])
def km_M_join : pK := (⟨"RoommateHouseModel", "join", "(II)V"⟩, prog_7_method_15_code, 5, none, [])
def km_M_blocks : pK := (⟨"RoommateHouseModel", "blocks", "(II[I)Z"⟩, prog_7_method_16_code, 4, (some .boolean), [])
def km_M_wouldLeave : pK := (⟨"RoommateHouseModel", "wouldLeave", "(II[I)Z"⟩, prog_7_method_17_code, 5, (some .boolean), [])
def km_M_isStable : pK := (⟨"RoommateHouseModel", "isStable", "([I)Z"⟩, prog_7_method_18_code, 5, (some .boolean), [])
def km_M_blockingOf : pK := (⟨"RoommateHouseModel", "blockingOf", "([I)I"⟩, prog_7_method_19_code, 5, (some .int), [])
def km_M_pair : pK := (⟨"RoommateHouseModel", "pair", "(II)I"⟩, prog_7_method_20_code, 3, (some .int), [])
def km_M_partner : pK := (⟨"RoommateHouseModel", "partner", "(I)I"⟩, prog_7_method_21_code, 2, (some .int), [])
def km_M_blocking : pK := (⟨"RoommateHouseModel", "blocking", "()I"⟩, prog_7_method_22_code, 1, (some .int), [])
def km_M_satisfy : pK := (⟨"RoommateHouseModel", "satisfy", "()I"⟩, prog_7_method_23_code, 3, (some .int), [])
def km_M_chosen : pK := (⟨"RoommateHouseModel", "chosen", "(II)I"⟩, prog_7_method_24_code, 3, (some .int), [])
def km_M_nextChoice : pK := (⟨"RoommateHouseModel", "nextChoice", "(IIZ)I"⟩, prog_7_method_25_code, 5, (some .int), [])
def km_M_goes : pK := (⟨"RoommateHouseModel", "goes", "(IIZ)Z"⟩, prog_7_method_26_code, 6, (some .boolean), [])
def km_M_mayStay : pK := (⟨"RoommateHouseModel", "mayStay", "(II)Z"⟩, prog_7_method_27_code, 7, (some .boolean), [])
def km_M_forget : pK := (⟨"RoommateHouseModel", "forget", "(IZ)V"⟩, prog_7_method_28_code, 3, none, [])
def km_M_goThrough : pK := (⟨"RoommateHouseModel", "goThrough", "(Z)V"⟩, prog_7_method_29_code, 5, none, [])
def km_M_look : pK := (⟨"RoommateHouseModel", "look", "(Z)Z"⟩, prog_7_method_30_code, 3, (some .boolean), [])
def km_M_isPartition : pK := (⟨"RoommateHouseModel", "isPartition", "()Z"⟩, prog_7_method_31_code, 2, (some .boolean), [])
def km_M_takesParties : pK := (⟨"RoommateHouseModel", "takesParties", "()Z"⟩, prog_7_method_32_code, 4, (some .boolean), [])
def km_M_learn : pK := (⟨"RoommateHouseModel", "learn", "()V"⟩, prog_7_method_33_code, 4, none, [])
def km_M_matchings : pK := (⟨"RoommateHouseModel", "matchings", "()I"⟩, prog_7_method_34_code, 1, (some .int), [])
def km_M_matched : pK := (⟨"RoommateHouseModel", "matched", "(I)I"⟩, prog_7_method_35_code, 2, (some .int), [])
def km_M_extreme : pK := (⟨"RoommateHouseModel", "extreme", "(IZ)I"⟩, prog_7_method_36_code, 7, (some .int), [])
def km_M_together : pK := (⟨"RoommateHouseModel", "together", "(II)I"⟩, prog_7_method_37_code, 3, (some .int), [])
def km_M_party : pK := (⟨"RoommateHouseModel", "party", "(I)I"⟩, prog_7_method_38_code, 2, (some .int), [])
def km_M_next : pK := (⟨"RoommateHouseModel", "next", "(I)I"⟩, prog_7_method_39_code, 2, (some .int), [])
def km_M_parties : pK := (⟨"RoommateHouseModel", "parties", "(Z)I"⟩, prog_7_method_40_code, 2, (some .int), [])
def km_M_size : pK := (⟨"RoommateHouseModel", "size", "()I"⟩, prog_7_method_41_code, 1, (some .int), [])
def km_M_astray : pK := (⟨"RoommateHouseModel", "astray", "()I"⟩, prog_7_method_42_code, 1, (some .int), [])
def km_L_people : pK := (⟨"RoommateHouseLaw", "people", "(LRoommateHouse;I[J)I"⟩, method_3_code, 4, (some .int), [(0, 9, 12, 13)])
def km_L_put : pK := (⟨"RoommateHouseLaw", "put", "(LRoommateHouse;II[J)I"⟩, method_4_code, 5, (some .int), [(0, 10, 13, 19), (0, 10, 17, 13), (0, 10, 21, 21)])
def km_L_remove : pK := (⟨"RoommateHouseLaw", "remove", "(LRoommateHouse;II[J)I"⟩, method_5_code, 5, (some .int), [(0, 10, 13, 19)])
def km_L_move : pK := (⟨"RoommateHouseLaw", "move", "(LRoommateHouse;III[J)I"⟩, method_6_code, 6, (some .int), [(0, 12, 15, 19)])
def km_L_at : pK := (⟨"RoommateHouseLaw", "at", "(LRoommateHouse;II[J)I"⟩, method_7_code, 5, (some .int), [(0, 10, 13, 19)])
def km_L_place : pK := (⟨"RoommateHouseLaw", "place", "(LRoommateHouse;II[J)I"⟩, method_8_code, 5, (some .int), [(0, 10, 13, 19)])
def km_L_pair : pK := (⟨"RoommateHouseLaw", "pair", "(LRoommateHouse;II[J)I"⟩, method_9_code, 5, (some .int), [(0, 10, 13, 19), (0, 10, 17, 13), (0, 10, 21, 21)])
def km_L_partner : pK := (⟨"RoommateHouseLaw", "partner", "(LRoommateHouse;I[J)I"⟩, method_10_code, 4, (some .int), [(0, 9, 12, 19)])
def km_L_matched : pK := (⟨"RoommateHouseLaw", "matched", "(LRoommateHouse;I[J)I"⟩, method_11_code, 4, (some .int), [(0, 9, 12, 19)])
def km_L_extreme : pK := (⟨"RoommateHouseLaw", "extreme", "(LRoommateHouse;IZ[J)I"⟩, method_12_code, 5, (some .int), [(0, 10, 13, 19)])
def km_L_together : pK := (⟨"RoommateHouseLaw", "together", "(LRoommateHouse;II[J)I"⟩, method_13_code, 5, (some .int), [(0, 10, 13, 19)])
def km_L_party : pK := (⟨"RoommateHouseLaw", "party", "(LRoommateHouse;I[J)I"⟩, method_14_code, 4, (some .int), [(0, 9, 12, 19)])
def km_L_next : pK := (⟨"RoommateHouseLaw", "next", "(LRoommateHouse;I[J)I"⟩, method_15_code, 4, (some .int), [(0, 9, 12, 19)])
def km_L_law : pK := (⟨"RoommateHouseLaw", "law", "([I)Z"⟩, code, 7, (some .boolean), [])
end
section
/-! what stands where: D -/
theorem d_D_init_0 : decode prog_2_method_1_code 0 = .ok (.aload_n 0, 1) := by decide +kernel
theorem d_D_init_1 : decode prog_2_method_1_code 1 = .ok (.invokespecial 3, 3) := by decide +kernel
theorem d_D_init_4 : decode prog_2_method_1_code 4 = .ok (.aload_n 0, 1) := by decide +kernel
theorem d_D_init_5 : decode prog_2_method_1_code 5 = .ok (.bipush 8, 2) := by decide +kernel
theorem d_D_init_7 : decode prog_2_method_1_code 7 = .ok (.newarray .int, 2) := by decide +kernel
theorem d_D_init_9 : decode prog_2_method_1_code 9 = .ok (.putfield 9, 3) := by decide +kernel
theorem d_D_init_12 : decode prog_2_method_1_code 12 = .ok (.aload_n 0, 1) := by decide +kernel
theorem d_D_init_13 : decode prog_2_method_1_code 13 = .ok (.aload_n 1, 1) := by decide +kernel
theorem d_D_init_14 : decode prog_2_method_1_code 14 = .ok (.putfield 15, 3) := by decide +kernel
theorem d_D_init_17 : decode prog_2_method_1_code 17 = .ok (.return_, 1) := by decide +kernel
theorem d_D_mateOf_0 : decode prog_2_method_2_code 0 = .ok (.aload_n 0, 1) := by decide +kernel
theorem d_D_mateOf_1 : decode prog_2_method_2_code 1 = .ok (.getfield 9, 3) := by decide +kernel
theorem d_D_mateOf_4 : decode prog_2_method_2_code 4 = .ok (.iload_n 1, 1) := by decide +kernel
theorem d_D_mateOf_5 : decode prog_2_method_2_code 5 = .ok (.iaload, 1) := by decide +kernel
theorem d_D_mateOf_6 : decode prog_2_method_2_code 6 = .ok (.ireturn, 1) := by decide +kernel
theorem d_D_makeAllSingle_0 : decode prog_2_method_3_code 0 = .ok (.iconst 0, 1) := by decide +kernel
theorem d_D_makeAllSingle_1 : decode prog_2_method_3_code 1 = .ok (.istore_n 1, 1) := by decide +kernel
theorem d_D_makeAllSingle_2 : decode prog_2_method_3_code 2 = .ok (.iload_n 1, 1) := by decide +kernel
theorem d_D_makeAllSingle_3 : decode prog_2_method_3_code 3 = .ok (.bipush 8, 2) := by decide +kernel
theorem d_D_makeAllSingle_5 : decode prog_2_method_3_code 5 = .ok (.if_icmp .ge 16, 3) := by decide +kernel
theorem d_D_makeAllSingle_8 : decode prog_2_method_3_code 8 = .ok (.aload_n 0, 1) := by decide +kernel
theorem d_D_makeAllSingle_9 : decode prog_2_method_3_code 9 = .ok (.getfield 9, 3) := by decide +kernel
theorem d_D_makeAllSingle_12 : decode prog_2_method_3_code 12 = .ok (.iload_n 1, 1) := by decide +kernel
theorem d_D_makeAllSingle_13 : decode prog_2_method_3_code 13 = .ok (.iload_n 1, 1) := by decide +kernel
theorem d_D_makeAllSingle_14 : decode prog_2_method_3_code 14 = .ok (.iastore, 1) := by decide +kernel
theorem d_D_makeAllSingle_15 : decode prog_2_method_3_code 15 = .ok (.iinc 1 1, 3) := by decide +kernel
theorem d_D_makeAllSingle_18 : decode prog_2_method_3_code 18 = .ok (.goto (-16), 3) := by decide +kernel
theorem d_D_makeAllSingle_21 : decode prog_2_method_3_code 21 = .ok (.return_, 1) := by decide +kernel
theorem d_D_join_0 : decode prog_2_method_4_code 0 = .ok (.aload_n 0, 1) := by decide +kernel
theorem d_D_join_1 : decode prog_2_method_4_code 1 = .ok (.iload_n 1, 1) := by decide +kernel
theorem d_D_join_2 : decode prog_2_method_4_code 2 = .ok (.invokevirtual 19, 3) := by decide +kernel
theorem d_D_join_5 : decode prog_2_method_4_code 5 = .ok (.aload_n 0, 1) := by decide +kernel
theorem d_D_join_6 : decode prog_2_method_4_code 6 = .ok (.iload_n 2, 1) := by decide +kernel
theorem d_D_join_7 : decode prog_2_method_4_code 7 = .ok (.invokevirtual 19, 3) := by decide +kernel
theorem d_D_join_10 : decode prog_2_method_4_code 10 = .ok (.aload_n 0, 1) := by decide +kernel
theorem d_D_join_11 : decode prog_2_method_4_code 11 = .ok (.getfield 9, 3) := by decide +kernel
theorem d_D_join_14 : decode prog_2_method_4_code 14 = .ok (.iload_n 1, 1) := by decide +kernel
theorem d_D_join_15 : decode prog_2_method_4_code 15 = .ok (.iload_n 2, 1) := by decide +kernel
theorem d_D_join_16 : decode prog_2_method_4_code 16 = .ok (.iastore, 1) := by decide +kernel
theorem d_D_join_17 : decode prog_2_method_4_code 17 = .ok (.aload_n 0, 1) := by decide +kernel
theorem d_D_join_18 : decode prog_2_method_4_code 18 = .ok (.getfield 9, 3) := by decide +kernel
theorem d_D_join_21 : decode prog_2_method_4_code 21 = .ok (.iload_n 2, 1) := by decide +kernel
theorem d_D_join_22 : decode prog_2_method_4_code 22 = .ok (.iload_n 1, 1) := by decide +kernel
theorem d_D_join_23 : decode prog_2_method_4_code 23 = .ok (.iastore, 1) := by decide +kernel
theorem d_D_join_24 : decode prog_2_method_4_code 24 = .ok (.return_, 1) := by decide +kernel
theorem d_D_partIfNotPossible_0 : decode prog_2_method_5_code 0 = .ok (.aload_n 0, 1) := by decide +kernel
theorem d_D_partIfNotPossible_1 : decode prog_2_method_5_code 1 = .ok (.getfield 9, 3) := by decide +kernel
theorem d_D_partIfNotPossible_4 : decode prog_2_method_5_code 4 = .ok (.iload_n 1, 1) := by decide +kernel
theorem d_D_partIfNotPossible_5 : decode prog_2_method_5_code 5 = .ok (.iaload, 1) := by decide +kernel
theorem d_D_partIfNotPossible_6 : decode prog_2_method_5_code 6 = .ok (.iload_n 2, 1) := by decide +kernel
theorem d_D_partIfNotPossible_7 : decode prog_2_method_5_code 7 = .ok (.if_icmp .ne 20, 3) := by decide +kernel
theorem d_D_partIfNotPossible_10 : decode prog_2_method_5_code 10 = .ok (.aload_n 0, 1) := by decide +kernel
theorem d_D_partIfNotPossible_11 : decode prog_2_method_5_code 11 = .ok (.getfield 15, 3) := by decide +kernel
theorem d_D_partIfNotPossible_14 : decode prog_2_method_5_code 14 = .ok (.iload_n 1, 1) := by decide +kernel
theorem d_D_partIfNotPossible_15 : decode prog_2_method_5_code 15 = .ok (.iload_n 2, 1) := by decide +kernel
theorem d_D_partIfNotPossible_16 : decode prog_2_method_5_code 16 = .ok (.invokevirtual 23, 3) := by decide +kernel
theorem d_D_partIfNotPossible_19 : decode prog_2_method_5_code 19 = .ok (.ifCond .ne 8, 3) := by decide +kernel
theorem d_D_partIfNotPossible_22 : decode prog_2_method_5_code 22 = .ok (.aload_n 0, 1) := by decide +kernel
theorem d_D_partIfNotPossible_23 : decode prog_2_method_5_code 23 = .ok (.iload_n 1, 1) := by decide +kernel
theorem d_D_partIfNotPossible_24 : decode prog_2_method_5_code 24 = .ok (.invokevirtual 19, 3) := by decide +kernel
theorem d_D_partIfNotPossible_27 : decode prog_2_method_5_code 27 = .ok (.return_, 1) := by decide +kernel
theorem d_D_makeSingle_0 : decode prog_2_method_6_code 0 = .ok (.aload_n 0, 1) := by decide +kernel
theorem d_D_makeSingle_1 : decode prog_2_method_6_code 1 = .ok (.getfield 9, 3) := by decide +kernel
theorem d_D_makeSingle_4 : decode prog_2_method_6_code 4 = .ok (.iload_n 1, 1) := by decide +kernel
theorem d_D_makeSingle_5 : decode prog_2_method_6_code 5 = .ok (.iaload, 1) := by decide +kernel
theorem d_D_makeSingle_6 : decode prog_2_method_6_code 6 = .ok (.istore_n 2, 1) := by decide +kernel
theorem d_D_makeSingle_7 : decode prog_2_method_6_code 7 = .ok (.aload_n 0, 1) := by decide +kernel
theorem d_D_makeSingle_8 : decode prog_2_method_6_code 8 = .ok (.getfield 9, 3) := by decide +kernel
theorem d_D_makeSingle_11 : decode prog_2_method_6_code 11 = .ok (.iload_n 2, 1) := by decide +kernel
theorem d_D_makeSingle_12 : decode prog_2_method_6_code 12 = .ok (.iload_n 2, 1) := by decide +kernel
theorem d_D_makeSingle_13 : decode prog_2_method_6_code 13 = .ok (.iastore, 1) := by decide +kernel
theorem d_D_makeSingle_14 : decode prog_2_method_6_code 14 = .ok (.aload_n 0, 1) := by decide +kernel
theorem d_D_makeSingle_15 : decode prog_2_method_6_code 15 = .ok (.getfield 9, 3) := by decide +kernel
theorem d_D_makeSingle_18 : decode prog_2_method_6_code 18 = .ok (.iload_n 1, 1) := by decide +kernel
theorem d_D_makeSingle_19 : decode prog_2_method_6_code 19 = .ok (.iload_n 1, 1) := by decide +kernel
theorem d_D_makeSingle_20 : decode prog_2_method_6_code 20 = .ok (.iastore, 1) := by decide +kernel
theorem d_D_makeSingle_21 : decode prog_2_method_6_code 21 = .ok (.return_, 1) := by decide +kernel
theorem d_D_countBlocking_0 : decode prog_2_method_7_code 0 = .ok (.iconst 0, 1) := by decide +kernel
theorem d_D_countBlocking_1 : decode prog_2_method_7_code 1 = .ok (.istore_n 1, 1) := by decide +kernel
theorem d_D_countBlocking_2 : decode prog_2_method_7_code 2 = .ok (.iconst 0, 1) := by decide +kernel
theorem d_D_countBlocking_3 : decode prog_2_method_7_code 3 = .ok (.istore_n 2, 1) := by decide +kernel
theorem d_D_countBlocking_4 : decode prog_2_method_7_code 4 = .ok (.iload_n 2, 1) := by decide +kernel
theorem d_D_countBlocking_5 : decode prog_2_method_7_code 5 = .ok (.aload_n 0, 1) := by decide +kernel
theorem d_D_countBlocking_6 : decode prog_2_method_7_code 6 = .ok (.getfield 15, 3) := by decide +kernel
theorem d_D_countBlocking_9 : decode prog_2_method_7_code 9 = .ok (.invokevirtual 29, 3) := by decide +kernel
theorem d_D_countBlocking_12 : decode prog_2_method_7_code 12 = .ok (.if_icmp .ge 49, 3) := by decide +kernel
theorem d_D_countBlocking_15 : decode prog_2_method_7_code 15 = .ok (.iload_n 2, 1) := by decide +kernel
theorem d_D_countBlocking_16 : decode prog_2_method_7_code 16 = .ok (.iconst 1, 1) := by decide +kernel
theorem d_D_countBlocking_17 : decode prog_2_method_7_code 17 = .ok (.iadd, 1) := by decide +kernel
theorem d_D_countBlocking_18 : decode prog_2_method_7_code 18 = .ok (.istore_n 3, 1) := by decide +kernel
theorem d_D_countBlocking_19 : decode prog_2_method_7_code 19 = .ok (.iload_n 3, 1) := by decide +kernel
theorem d_D_countBlocking_20 : decode prog_2_method_7_code 20 = .ok (.aload_n 0, 1) := by decide +kernel
theorem d_D_countBlocking_21 : decode prog_2_method_7_code 21 = .ok (.getfield 15, 3) := by decide +kernel
theorem d_D_countBlocking_24 : decode prog_2_method_7_code 24 = .ok (.invokevirtual 29, 3) := by decide +kernel
theorem d_D_countBlocking_27 : decode prog_2_method_7_code 27 = .ok (.if_icmp .ge 28, 3) := by decide +kernel
theorem d_D_countBlocking_30 : decode prog_2_method_7_code 30 = .ok (.aload_n 0, 1) := by decide +kernel
theorem d_D_countBlocking_31 : decode prog_2_method_7_code 31 = .ok (.getfield 15, 3) := by decide +kernel
theorem d_D_countBlocking_34 : decode prog_2_method_7_code 34 = .ok (.iload_n 2, 1) := by decide +kernel
theorem d_D_countBlocking_35 : decode prog_2_method_7_code 35 = .ok (.iload_n 3, 1) := by decide +kernel
theorem d_D_countBlocking_36 : decode prog_2_method_7_code 36 = .ok (.aload_n 0, 1) := by decide +kernel
theorem d_D_countBlocking_37 : decode prog_2_method_7_code 37 = .ok (.getfield 9, 3) := by decide +kernel
theorem d_D_countBlocking_40 : decode prog_2_method_7_code 40 = .ok (.invokevirtual 33, 3) := by decide +kernel
theorem d_D_countBlocking_43 : decode prog_2_method_7_code 43 = .ok (.ifCond .eq 6, 3) := by decide +kernel
theorem d_D_countBlocking_46 : decode prog_2_method_7_code 46 = .ok (.iinc 1 1, 3) := by decide +kernel
theorem d_D_countBlocking_49 : decode prog_2_method_7_code 49 = .ok (.iinc 3 1, 3) := by decide +kernel
theorem d_D_countBlocking_52 : decode prog_2_method_7_code 52 = .ok (.goto (-33), 3) := by decide +kernel
theorem d_D_countBlocking_55 : decode prog_2_method_7_code 55 = .ok (.iinc 2 1, 3) := by decide +kernel
theorem d_D_countBlocking_58 : decode prog_2_method_7_code 58 = .ok (.goto (-54), 3) := by decide +kernel
theorem d_D_countBlocking_61 : decode prog_2_method_7_code 61 = .ok (.iload_n 1, 1) := by decide +kernel
theorem d_D_countBlocking_62 : decode prog_2_method_7_code 62 = .ok (.ireturn, 1) := by decide +kernel
theorem d_D_joinFirstBlocking_0 : decode prog_2_method_8_code 0 = .ok (.iconst 0, 1) := by decide +kernel
theorem d_D_joinFirstBlocking_1 : decode prog_2_method_8_code 1 = .ok (.istore_n 1, 1) := by decide +kernel
theorem d_D_joinFirstBlocking_2 : decode prog_2_method_8_code 2 = .ok (.iload_n 1, 1) := by decide +kernel
theorem d_D_joinFirstBlocking_3 : decode prog_2_method_8_code 3 = .ok (.aload_n 0, 1) := by decide +kernel
theorem d_D_joinFirstBlocking_4 : decode prog_2_method_8_code 4 = .ok (.getfield 15, 3) := by decide +kernel
theorem d_D_joinFirstBlocking_7 : decode prog_2_method_8_code 7 = .ok (.invokevirtual 29, 3) := by decide +kernel
theorem d_D_joinFirstBlocking_10 : decode prog_2_method_8_code 10 = .ok (.if_icmp .ge 59, 3) := by decide +kernel
theorem d_D_joinFirstBlocking_13 : decode prog_2_method_8_code 13 = .ok (.iload_n 1, 1) := by decide +kernel
theorem d_D_joinFirstBlocking_14 : decode prog_2_method_8_code 14 = .ok (.iconst 1, 1) := by decide +kernel
theorem d_D_joinFirstBlocking_15 : decode prog_2_method_8_code 15 = .ok (.iadd, 1) := by decide +kernel
theorem d_D_joinFirstBlocking_16 : decode prog_2_method_8_code 16 = .ok (.istore_n 2, 1) := by decide +kernel
theorem d_D_joinFirstBlocking_17 : decode prog_2_method_8_code 17 = .ok (.iload_n 2, 1) := by decide +kernel
theorem d_D_joinFirstBlocking_18 : decode prog_2_method_8_code 18 = .ok (.aload_n 0, 1) := by decide +kernel
theorem d_D_joinFirstBlocking_19 : decode prog_2_method_8_code 19 = .ok (.getfield 15, 3) := by decide +kernel
theorem d_D_joinFirstBlocking_22 : decode prog_2_method_8_code 22 = .ok (.invokevirtual 29, 3) := by decide +kernel
theorem d_D_joinFirstBlocking_25 : decode prog_2_method_8_code 25 = .ok (.if_icmp .ge 38, 3) := by decide +kernel
theorem d_D_joinFirstBlocking_28 : decode prog_2_method_8_code 28 = .ok (.aload_n 0, 1) := by decide +kernel
theorem d_D_joinFirstBlocking_29 : decode prog_2_method_8_code 29 = .ok (.getfield 15, 3) := by decide +kernel
theorem d_D_joinFirstBlocking_32 : decode prog_2_method_8_code 32 = .ok (.iload_n 1, 1) := by decide +kernel
theorem d_D_joinFirstBlocking_33 : decode prog_2_method_8_code 33 = .ok (.iload_n 2, 1) := by decide +kernel
theorem d_D_joinFirstBlocking_34 : decode prog_2_method_8_code 34 = .ok (.aload_n 0, 1) := by decide +kernel
theorem d_D_joinFirstBlocking_35 : decode prog_2_method_8_code 35 = .ok (.getfield 9, 3) := by decide +kernel
theorem d_D_joinFirstBlocking_38 : decode prog_2_method_8_code 38 = .ok (.invokevirtual 33, 3) := by decide +kernel
theorem d_D_joinFirstBlocking_41 : decode prog_2_method_8_code 41 = .ok (.ifCond .eq 16, 3) := by decide +kernel
theorem d_D_joinFirstBlocking_44 : decode prog_2_method_8_code 44 = .ok (.aload_n 0, 1) := by decide +kernel
theorem d_D_joinFirstBlocking_45 : decode prog_2_method_8_code 45 = .ok (.iload_n 1, 1) := by decide +kernel
theorem d_D_joinFirstBlocking_46 : decode prog_2_method_8_code 46 = .ok (.iload_n 2, 1) := by decide +kernel
theorem d_D_joinFirstBlocking_47 : decode prog_2_method_8_code 47 = .ok (.invokevirtual 37, 3) := by decide +kernel
theorem d_D_joinFirstBlocking_50 : decode prog_2_method_8_code 50 = .ok (.iload_n 1, 1) := by decide +kernel
theorem d_D_joinFirstBlocking_51 : decode prog_2_method_8_code 51 = .ok (.bipush 8, 2) := by decide +kernel
theorem d_D_joinFirstBlocking_53 : decode prog_2_method_8_code 53 = .ok (.imul, 1) := by decide +kernel
theorem d_D_joinFirstBlocking_54 : decode prog_2_method_8_code 54 = .ok (.iload_n 2, 1) := by decide +kernel
theorem d_D_joinFirstBlocking_55 : decode prog_2_method_8_code 55 = .ok (.iadd, 1) := by decide +kernel
theorem d_D_joinFirstBlocking_56 : decode prog_2_method_8_code 56 = .ok (.ireturn, 1) := by decide +kernel
theorem d_D_joinFirstBlocking_57 : decode prog_2_method_8_code 57 = .ok (.iinc 2 1, 3) := by decide +kernel
theorem d_D_joinFirstBlocking_60 : decode prog_2_method_8_code 60 = .ok (.goto (-43), 3) := by decide +kernel
theorem d_D_joinFirstBlocking_63 : decode prog_2_method_8_code 63 = .ok (.iinc 1 1, 3) := by decide +kernel
theorem d_D_joinFirstBlocking_66 : decode prog_2_method_8_code 66 = .ok (.goto (-64), 3) := by decide +kernel
theorem d_D_joinFirstBlocking_69 : decode prog_2_method_8_code 69 = .ok (.iconst (-1), 1) := by decide +kernel
theorem d_D_joinFirstBlocking_70 : decode prog_2_method_8_code 70 = .ok (.ireturn, 1) := by decide +kernel
theorem d_D_countAstray_0 : decode prog_2_method_9_code 0 = .ok (.iconst 0, 1) := by decide +kernel
theorem d_D_countAstray_1 : decode prog_2_method_9_code 1 = .ok (.istore_n 1, 1) := by decide +kernel
theorem d_D_countAstray_2 : decode prog_2_method_9_code 2 = .ok (.iconst 0, 1) := by decide +kernel
theorem d_D_countAstray_3 : decode prog_2_method_9_code 3 = .ok (.istore_n 2, 1) := by decide +kernel
theorem d_D_countAstray_4 : decode prog_2_method_9_code 4 = .ok (.iload_n 2, 1) := by decide +kernel
theorem d_D_countAstray_5 : decode prog_2_method_9_code 5 = .ok (.aload_n 0, 1) := by decide +kernel
theorem d_D_countAstray_6 : decode prog_2_method_9_code 6 = .ok (.getfield 15, 3) := by decide +kernel
theorem d_D_countAstray_9 : decode prog_2_method_9_code 9 = .ok (.invokevirtual 29, 3) := by decide +kernel
theorem d_D_countAstray_12 : decode prog_2_method_9_code 12 = .ok (.if_icmp .ge 20, 3) := by decide +kernel
theorem d_D_countAstray_15 : decode prog_2_method_9_code 15 = .ok (.aload_n 0, 1) := by decide +kernel
theorem d_D_countAstray_16 : decode prog_2_method_9_code 16 = .ok (.iload_n 2, 1) := by decide +kernel
theorem d_D_countAstray_17 : decode prog_2_method_9_code 17 = .ok (.invokevirtual 41, 3) := by decide +kernel
theorem d_D_countAstray_20 : decode prog_2_method_9_code 20 = .ok (.ifCond .eq 6, 3) := by decide +kernel
theorem d_D_countAstray_23 : decode prog_2_method_9_code 23 = .ok (.iinc 1 1, 3) := by decide +kernel
theorem d_D_countAstray_26 : decode prog_2_method_9_code 26 = .ok (.iinc 2 1, 3) := by decide +kernel
theorem d_D_countAstray_29 : decode prog_2_method_9_code 29 = .ok (.goto (-25), 3) := by decide +kernel
theorem d_D_countAstray_32 : decode prog_2_method_9_code 32 = .ok (.iload_n 1, 1) := by decide +kernel
theorem d_D_countAstray_33 : decode prog_2_method_9_code 33 = .ok (.ireturn, 1) := by decide +kernel
theorem d_D_isAstray_0 : decode prog_2_method_10_code 0 = .ok (.aload_n 0, 1) := by decide +kernel
theorem d_D_isAstray_1 : decode prog_2_method_10_code 1 = .ok (.getfield 9, 3) := by decide +kernel
theorem d_D_isAstray_4 : decode prog_2_method_10_code 4 = .ok (.iload_n 1, 1) := by decide +kernel
theorem d_D_isAstray_5 : decode prog_2_method_10_code 5 = .ok (.iaload, 1) := by decide +kernel
theorem d_D_isAstray_6 : decode prog_2_method_10_code 6 = .ok (.istore_n 2, 1) := by decide +kernel
theorem d_D_isAstray_7 : decode prog_2_method_10_code 7 = .ok (.aload_n 0, 1) := by decide +kernel
theorem d_D_isAstray_8 : decode prog_2_method_10_code 8 = .ok (.getfield 9, 3) := by decide +kernel
theorem d_D_isAstray_11 : decode prog_2_method_10_code 11 = .ok (.iload_n 2, 1) := by decide +kernel
theorem d_D_isAstray_12 : decode prog_2_method_10_code 12 = .ok (.iaload, 1) := by decide +kernel
theorem d_D_isAstray_13 : decode prog_2_method_10_code 13 = .ok (.iload_n 1, 1) := by decide +kernel
theorem d_D_isAstray_14 : decode prog_2_method_10_code 14 = .ok (.if_icmp .ne 20, 3) := by decide +kernel
theorem d_D_isAstray_17 : decode prog_2_method_10_code 17 = .ok (.iload_n 2, 1) := by decide +kernel
theorem d_D_isAstray_18 : decode prog_2_method_10_code 18 = .ok (.iload_n 1, 1) := by decide +kernel
theorem d_D_isAstray_19 : decode prog_2_method_10_code 19 = .ok (.if_icmp .eq 19, 3) := by decide +kernel
theorem d_D_isAstray_22 : decode prog_2_method_10_code 22 = .ok (.aload_n 0, 1) := by decide +kernel
theorem d_D_isAstray_23 : decode prog_2_method_10_code 23 = .ok (.getfield 15, 3) := by decide +kernel
theorem d_D_isAstray_26 : decode prog_2_method_10_code 26 = .ok (.iload_n 1, 1) := by decide +kernel
theorem d_D_isAstray_27 : decode prog_2_method_10_code 27 = .ok (.iload_n 2, 1) := by decide +kernel
theorem d_D_isAstray_28 : decode prog_2_method_10_code 28 = .ok (.invokevirtual 23, 3) := by decide +kernel
theorem d_D_isAstray_31 : decode prog_2_method_10_code 31 = .ok (.ifCond .ne 7, 3) := by decide +kernel
theorem d_D_isAstray_34 : decode prog_2_method_10_code 34 = .ok (.iconst 1, 1) := by decide +kernel
theorem d_D_isAstray_35 : decode prog_2_method_10_code 35 = .ok (.goto 4, 3) := by decide +kernel
theorem d_D_isAstray_38 : decode prog_2_method_10_code 38 = .ok (.iconst 0, 1) := by decide +kernel
theorem d_D_isAstray_39 : decode prog_2_method_10_code 39 = .ok (.ireturn, 1) := by decide +kernel
end
section
/-! what stands where: H -/
theorem d_H_init_0 : decode prog_1_method_1_code 0 = .ok (.aload_n 0, 1) := by decide +kernel
theorem d_H_init_1 : decode prog_1_method_1_code 1 = .ok (.invokespecial 1, 3) := by decide +kernel
theorem d_H_init_4 : decode prog_1_method_1_code 4 = .ok (.aload_n 0, 1) := by decide +kernel
theorem d_H_init_5 : decode prog_1_method_1_code 5 = .ok (.new 7, 3) := by decide +kernel
theorem d_H_init_8 : decode prog_1_method_1_code 8 = .ok (.dup, 1) := by decide +kernel
theorem d_H_init_9 : decode prog_1_method_1_code 9 = .ok (.invokespecial 9, 3) := by decide +kernel
theorem d_H_init_12 : decode prog_1_method_1_code 12 = .ok (.putfield 10, 3) := by decide +kernel
theorem d_H_init_15 : decode prog_1_method_1_code 15 = .ok (.aload_n 0, 1) := by decide +kernel
theorem d_H_init_16 : decode prog_1_method_1_code 16 = .ok (.new 16, 3) := by decide +kernel
theorem d_H_init_19 : decode prog_1_method_1_code 19 = .ok (.dup, 1) := by decide +kernel
theorem d_H_init_20 : decode prog_1_method_1_code 20 = .ok (.aload_n 0, 1) := by decide +kernel
theorem d_H_init_21 : decode prog_1_method_1_code 21 = .ok (.getfield 10, 3) := by decide +kernel
theorem d_H_init_24 : decode prog_1_method_1_code 24 = .ok (.invokespecial 18, 3) := by decide +kernel
theorem d_H_init_27 : decode prog_1_method_1_code 27 = .ok (.putfield 21, 3) := by decide +kernel
theorem d_H_init_30 : decode prog_1_method_1_code 30 = .ok (.aload_n 0, 1) := by decide +kernel
theorem d_H_init_31 : decode prog_1_method_1_code 31 = .ok (.new 25, 3) := by decide +kernel
theorem d_H_init_34 : decode prog_1_method_1_code 34 = .ok (.dup, 1) := by decide +kernel
theorem d_H_init_35 : decode prog_1_method_1_code 35 = .ok (.aload_n 0, 1) := by decide +kernel
theorem d_H_init_36 : decode prog_1_method_1_code 36 = .ok (.getfield 10, 3) := by decide +kernel
theorem d_H_init_39 : decode prog_1_method_1_code 39 = .ok (.invokespecial 27, 3) := by decide +kernel
theorem d_H_init_42 : decode prog_1_method_1_code 42 = .ok (.putfield 28, 3) := by decide +kernel
theorem d_H_init_45 : decode prog_1_method_1_code 45 = .ok (.aload_n 0, 1) := by decide +kernel
theorem d_H_init_46 : decode prog_1_method_1_code 46 = .ok (.new 32, 3) := by decide +kernel
theorem d_H_init_49 : decode prog_1_method_1_code 49 = .ok (.dup, 1) := by decide +kernel
theorem d_H_init_50 : decode prog_1_method_1_code 50 = .ok (.aload_n 0, 1) := by decide +kernel
theorem d_H_init_51 : decode prog_1_method_1_code 51 = .ok (.getfield 10, 3) := by decide +kernel
theorem d_H_init_54 : decode prog_1_method_1_code 54 = .ok (.invokespecial 34, 3) := by decide +kernel
theorem d_H_init_57 : decode prog_1_method_1_code 57 = .ok (.putfield 35, 3) := by decide +kernel
theorem d_H_init_60 : decode prog_1_method_1_code 60 = .ok (.aload_n 0, 1) := by decide +kernel
theorem d_H_init_61 : decode prog_1_method_1_code 61 = .ok (.iconst 0, 1) := by decide +kernel
theorem d_H_init_62 : decode prog_1_method_1_code 62 = .ok (.invokevirtual 39, 3) := by decide +kernel
theorem d_H_init_65 : decode prog_1_method_1_code 65 = .ok (.return_, 1) := by decide +kernel
theorem d_H_people_0 : decode prog_1_method_2_code 0 = .ok (.iload_n 1, 1) := by decide +kernel
theorem d_H_people_1 : decode prog_1_method_2_code 1 = .ok (.ifCond .lt 9, 3) := by decide +kernel
theorem d_H_people_4 : decode prog_1_method_2_code 4 = .ok (.iload_n 1, 1) := by decide +kernel
theorem d_H_people_5 : decode prog_1_method_2_code 5 = .ok (.bipush 8, 2) := by decide +kernel
theorem d_H_people_7 : decode prog_1_method_2_code 7 = .ok (.if_icmp .le 11, 3) := by decide +kernel
theorem d_H_people_10 : decode prog_1_method_2_code 10 = .ok (.new 43, 3) := by decide +kernel
theorem d_H_people_13 : decode prog_1_method_2_code 13 = .ok (.dup, 1) := by decide +kernel
theorem d_H_people_14 : decode prog_1_method_2_code 14 = .ok (.invokespecial 45, 3) := by decide +kernel
theorem d_H_people_17 : decode prog_1_method_2_code 17 = .ok (.athrow, 1) := by decide +kernel
theorem d_H_people_18 : decode prog_1_method_2_code 18 = .ok (.aload_n 0, 1) := by decide +kernel
theorem d_H_people_19 : decode prog_1_method_2_code 19 = .ok (.getfield 10, 3) := by decide +kernel
theorem d_H_people_22 : decode prog_1_method_2_code 22 = .ok (.invokevirtual 46, 3) := by decide +kernel
theorem d_H_people_25 : decode prog_1_method_2_code 25 = .ok (.istore_n 2, 1) := by decide +kernel
theorem d_H_people_26 : decode prog_1_method_2_code 26 = .ok (.aload_n 0, 1) := by decide +kernel
theorem d_H_people_27 : decode prog_1_method_2_code 27 = .ok (.iload_n 1, 1) := by decide +kernel
theorem d_H_people_28 : decode prog_1_method_2_code 28 = .ok (.invokevirtual 39, 3) := by decide +kernel
theorem d_H_people_31 : decode prog_1_method_2_code 31 = .ok (.iload_n 2, 1) := by decide +kernel
theorem d_H_people_32 : decode prog_1_method_2_code 32 = .ok (.ireturn, 1) := by decide +kernel
theorem d_H_put_0 : decode prog_1_method_3_code 0 = .ok (.aload_n 0, 1) := by decide +kernel
theorem d_H_put_1 : decode prog_1_method_3_code 1 = .ok (.iload_n 1, 1) := by decide +kernel
theorem d_H_put_2 : decode prog_1_method_3_code 2 = .ok (.iload_n 2, 1) := by decide +kernel
theorem d_H_put_3 : decode prog_1_method_3_code 3 = .ok (.invokevirtual 50, 3) := by decide +kernel
theorem d_H_put_6 : decode prog_1_method_3_code 6 = .ok (.iload_n 1, 1) := by decide +kernel
theorem d_H_put_7 : decode prog_1_method_3_code 7 = .ok (.iload_n 2, 1) := by decide +kernel
theorem d_H_put_8 : decode prog_1_method_3_code 8 = .ok (.if_icmp .ne 11, 3) := by decide +kernel
theorem d_H_put_11 : decode prog_1_method_3_code 11 = .ok (.new 43, 3) := by decide +kernel
theorem d_H_put_14 : decode prog_1_method_3_code 14 = .ok (.dup, 1) := by decide +kernel
theorem d_H_put_15 : decode prog_1_method_3_code 15 = .ok (.invokespecial 45, 3) := by decide +kernel
theorem d_H_put_18 : decode prog_1_method_3_code 18 = .ok (.athrow, 1) := by decide +kernel
theorem d_H_put_19 : decode prog_1_method_3_code 19 = .ok (.aload_n 0, 1) := by decide +kernel
theorem d_H_put_20 : decode prog_1_method_3_code 20 = .ok (.getfield 10, 3) := by decide +kernel
theorem d_H_put_23 : decode prog_1_method_3_code 23 = .ok (.iload_n 1, 1) := by decide +kernel
theorem d_H_put_24 : decode prog_1_method_3_code 24 = .ok (.iload_n 2, 1) := by decide +kernel
theorem d_H_put_25 : decode prog_1_method_3_code 25 = .ok (.invokevirtual 54, 3) := by decide +kernel
theorem d_H_put_28 : decode prog_1_method_3_code 28 = .ok (.iconst (-1), 1) := by decide +kernel
theorem d_H_put_29 : decode prog_1_method_3_code 29 = .ok (.if_icmp .eq 11, 3) := by decide +kernel
theorem d_H_put_32 : decode prog_1_method_3_code 32 = .ok (.new 58, 3) := by decide +kernel
theorem d_H_put_35 : decode prog_1_method_3_code 35 = .ok (.dup, 1) := by decide +kernel
theorem d_H_put_36 : decode prog_1_method_3_code 36 = .ok (.invokespecial 60, 3) := by decide +kernel
theorem d_H_put_39 : decode prog_1_method_3_code 39 = .ok (.athrow, 1) := by decide +kernel
theorem d_H_put_40 : decode prog_1_method_3_code 40 = .ok (.aload_n 0, 1) := by decide +kernel
theorem d_H_put_41 : decode prog_1_method_3_code 41 = .ok (.getfield 10, 3) := by decide +kernel
theorem d_H_put_44 : decode prog_1_method_3_code 44 = .ok (.iload_n 1, 1) := by decide +kernel
theorem d_H_put_45 : decode prog_1_method_3_code 45 = .ok (.iload_n 2, 1) := by decide +kernel
theorem d_H_put_46 : decode prog_1_method_3_code 46 = .ok (.invokevirtual 61, 3) := by decide +kernel
theorem d_H_put_49 : decode prog_1_method_3_code 49 = .ok (.aload_n 0, 1) := by decide +kernel
theorem d_H_put_50 : decode prog_1_method_3_code 50 = .ok (.getfield 10, 3) := by decide +kernel
theorem d_H_put_53 : decode prog_1_method_3_code 53 = .ok (.iload_n 1, 1) := by decide +kernel
theorem d_H_put_54 : decode prog_1_method_3_code 54 = .ok (.invokevirtual 64, 3) := by decide +kernel
theorem d_H_put_57 : decode prog_1_method_3_code 57 = .ok (.ireturn, 1) := by decide +kernel
theorem d_H_remove_0 : decode prog_1_method_4_code 0 = .ok (.aload_n 0, 1) := by decide +kernel
theorem d_H_remove_1 : decode prog_1_method_4_code 1 = .ok (.iload_n 1, 1) := by decide +kernel
theorem d_H_remove_2 : decode prog_1_method_4_code 2 = .ok (.invokevirtual 68, 3) := by decide +kernel
theorem d_H_remove_5 : decode prog_1_method_4_code 5 = .ok (.aload_n 0, 1) := by decide +kernel
theorem d_H_remove_6 : decode prog_1_method_4_code 6 = .ok (.iload_n 1, 1) := by decide +kernel
theorem d_H_remove_7 : decode prog_1_method_4_code 7 = .ok (.iload_n 2, 1) := by decide +kernel
theorem d_H_remove_8 : decode prog_1_method_4_code 8 = .ok (.invokevirtual 71, 3) := by decide +kernel
theorem d_H_remove_11 : decode prog_1_method_4_code 11 = .ok (.aload_n 0, 1) := by decide +kernel
theorem d_H_remove_12 : decode prog_1_method_4_code 12 = .ok (.getfield 10, 3) := by decide +kernel
theorem d_H_remove_15 : decode prog_1_method_4_code 15 = .ok (.iload_n 1, 1) := by decide +kernel
theorem d_H_remove_16 : decode prog_1_method_4_code 16 = .ok (.iload_n 2, 1) := by decide +kernel
theorem d_H_remove_17 : decode prog_1_method_4_code 17 = .ok (.invokevirtual 74, 3) := by decide +kernel
theorem d_H_remove_20 : decode prog_1_method_4_code 20 = .ok (.istore_n 3, 1) := by decide +kernel
theorem d_H_remove_21 : decode prog_1_method_4_code 21 = .ok (.aload_n 0, 1) := by decide +kernel
theorem d_H_remove_22 : decode prog_1_method_4_code 22 = .ok (.getfield 10, 3) := by decide +kernel
theorem d_H_remove_25 : decode prog_1_method_4_code 25 = .ok (.iload_n 1, 1) := by decide +kernel
theorem d_H_remove_26 : decode prog_1_method_4_code 26 = .ok (.iload_n 2, 1) := by decide +kernel
theorem d_H_remove_27 : decode prog_1_method_4_code 27 = .ok (.invokevirtual 77, 3) := by decide +kernel
theorem d_H_remove_30 : decode prog_1_method_4_code 30 = .ok (.aload_n 0, 1) := by decide +kernel
theorem d_H_remove_31 : decode prog_1_method_4_code 31 = .ok (.getfield 21, 3) := by decide +kernel
theorem d_H_remove_34 : decode prog_1_method_4_code 34 = .ok (.iload_n 1, 1) := by decide +kernel
theorem d_H_remove_35 : decode prog_1_method_4_code 35 = .ok (.iload_n 3, 1) := by decide +kernel
theorem d_H_remove_36 : decode prog_1_method_4_code 36 = .ok (.invokevirtual 80, 3) := by decide +kernel
theorem d_H_remove_39 : decode prog_1_method_4_code 39 = .ok (.iload_n 3, 1) := by decide +kernel
theorem d_H_remove_40 : decode prog_1_method_4_code 40 = .ok (.ireturn, 1) := by decide +kernel
theorem d_H_move_0 : decode prog_1_method_5_code 0 = .ok (.aload_n 0, 1) := by decide +kernel
theorem d_H_move_1 : decode prog_1_method_5_code 1 = .ok (.iload_n 1, 1) := by decide +kernel
theorem d_H_move_2 : decode prog_1_method_5_code 2 = .ok (.invokevirtual 68, 3) := by decide +kernel
theorem d_H_move_5 : decode prog_1_method_5_code 5 = .ok (.aload_n 0, 1) := by decide +kernel
theorem d_H_move_6 : decode prog_1_method_5_code 6 = .ok (.iload_n 1, 1) := by decide +kernel
theorem d_H_move_7 : decode prog_1_method_5_code 7 = .ok (.iload_n 2, 1) := by decide +kernel
theorem d_H_move_8 : decode prog_1_method_5_code 8 = .ok (.invokevirtual 71, 3) := by decide +kernel
theorem d_H_move_11 : decode prog_1_method_5_code 11 = .ok (.aload_n 0, 1) := by decide +kernel
theorem d_H_move_12 : decode prog_1_method_5_code 12 = .ok (.iload_n 1, 1) := by decide +kernel
theorem d_H_move_13 : decode prog_1_method_5_code 13 = .ok (.iload_n 3, 1) := by decide +kernel
theorem d_H_move_14 : decode prog_1_method_5_code 14 = .ok (.invokevirtual 71, 3) := by decide +kernel
theorem d_H_move_17 : decode prog_1_method_5_code 17 = .ok (.aload_n 0, 1) := by decide +kernel
theorem d_H_move_18 : decode prog_1_method_5_code 18 = .ok (.getfield 10, 3) := by decide +kernel
theorem d_H_move_21 : decode prog_1_method_5_code 21 = .ok (.iload_n 1, 1) := by decide +kernel
theorem d_H_move_22 : decode prog_1_method_5_code 22 = .ok (.iload_n 2, 1) := by decide +kernel
theorem d_H_move_23 : decode prog_1_method_5_code 23 = .ok (.iload_n 3, 1) := by decide +kernel
theorem d_H_move_24 : decode prog_1_method_5_code 24 = .ok (.invokevirtual 83, 3) := by decide +kernel
theorem d_H_move_27 : decode prog_1_method_5_code 27 = .ok (.aload_n 0, 1) := by decide +kernel
theorem d_H_move_28 : decode prog_1_method_5_code 28 = .ok (.getfield 10, 3) := by decide +kernel
theorem d_H_move_31 : decode prog_1_method_5_code 31 = .ok (.iload_n 1, 1) := by decide +kernel
theorem d_H_move_32 : decode prog_1_method_5_code 32 = .ok (.iload_n 3, 1) := by decide +kernel
theorem d_H_move_33 : decode prog_1_method_5_code 33 = .ok (.invokevirtual 74, 3) := by decide +kernel
theorem d_H_move_36 : decode prog_1_method_5_code 36 = .ok (.ireturn, 1) := by decide +kernel
theorem d_H_at_0 : decode prog_1_method_6_code 0 = .ok (.aload_n 0, 1) := by decide +kernel
theorem d_H_at_1 : decode prog_1_method_6_code 1 = .ok (.iload_n 1, 1) := by decide +kernel
theorem d_H_at_2 : decode prog_1_method_6_code 2 = .ok (.invokevirtual 68, 3) := by decide +kernel
theorem d_H_at_5 : decode prog_1_method_6_code 5 = .ok (.iload_n 2, 1) := by decide +kernel
theorem d_H_at_6 : decode prog_1_method_6_code 6 = .ok (.ifCond .ge 11, 3) := by decide +kernel
theorem d_H_at_9 : decode prog_1_method_6_code 9 = .ok (.new 87, 3) := by decide +kernel
theorem d_H_at_12 : decode prog_1_method_6_code 12 = .ok (.dup, 1) := by decide +kernel
theorem d_H_at_13 : decode prog_1_method_6_code 13 = .ok (.invokespecial 89, 3) := by decide +kernel
theorem d_H_at_16 : decode prog_1_method_6_code 16 = .ok (.athrow, 1) := by decide +kernel
theorem d_H_at_17 : decode prog_1_method_6_code 17 = .ok (.iload_n 2, 1) := by decide +kernel
theorem d_H_at_18 : decode prog_1_method_6_code 18 = .ok (.aload_n 0, 1) := by decide +kernel
theorem d_H_at_19 : decode prog_1_method_6_code 19 = .ok (.getfield 10, 3) := by decide +kernel
theorem d_H_at_22 : decode prog_1_method_6_code 22 = .ok (.iload_n 1, 1) := by decide +kernel
theorem d_H_at_23 : decode prog_1_method_6_code 23 = .ok (.invokevirtual 64, 3) := by decide +kernel
theorem d_H_at_26 : decode prog_1_method_6_code 26 = .ok (.if_icmp .ge 15, 3) := by decide +kernel
theorem d_H_at_29 : decode prog_1_method_6_code 29 = .ok (.aload_n 0, 1) := by decide +kernel
theorem d_H_at_30 : decode prog_1_method_6_code 30 = .ok (.getfield 10, 3) := by decide +kernel
theorem d_H_at_33 : decode prog_1_method_6_code 33 = .ok (.iload_n 1, 1) := by decide +kernel
theorem d_H_at_34 : decode prog_1_method_6_code 34 = .ok (.iload_n 2, 1) := by decide +kernel
theorem d_H_at_35 : decode prog_1_method_6_code 35 = .ok (.invokevirtual 74, 3) := by decide +kernel
theorem d_H_at_38 : decode prog_1_method_6_code 38 = .ok (.goto 4, 3) := by decide +kernel
theorem d_H_at_41 : decode prog_1_method_6_code 41 = .ok (.iconst (-1), 1) := by decide +kernel
theorem d_H_at_42 : decode prog_1_method_6_code 42 = .ok (.ireturn, 1) := by decide +kernel
theorem d_H_place_0 : decode prog_1_method_7_code 0 = .ok (.aload_n 0, 1) := by decide +kernel
theorem d_H_place_1 : decode prog_1_method_7_code 1 = .ok (.iload_n 1, 1) := by decide +kernel
theorem d_H_place_2 : decode prog_1_method_7_code 2 = .ok (.iload_n 2, 1) := by decide +kernel
theorem d_H_place_3 : decode prog_1_method_7_code 3 = .ok (.invokevirtual 50, 3) := by decide +kernel
theorem d_H_place_6 : decode prog_1_method_7_code 6 = .ok (.aload_n 0, 1) := by decide +kernel
theorem d_H_place_7 : decode prog_1_method_7_code 7 = .ok (.getfield 10, 3) := by decide +kernel
theorem d_H_place_10 : decode prog_1_method_7_code 10 = .ok (.iload_n 1, 1) := by decide +kernel
theorem d_H_place_11 : decode prog_1_method_7_code 11 = .ok (.iload_n 2, 1) := by decide +kernel
theorem d_H_place_12 : decode prog_1_method_7_code 12 = .ok (.invokevirtual 54, 3) := by decide +kernel
theorem d_H_place_15 : decode prog_1_method_7_code 15 = .ok (.ireturn, 1) := by decide +kernel
theorem d_H_pair_0 : decode prog_1_method_8_code 0 = .ok (.aload_n 0, 1) := by decide +kernel
theorem d_H_pair_1 : decode prog_1_method_8_code 1 = .ok (.iload_n 1, 1) := by decide +kernel
theorem d_H_pair_2 : decode prog_1_method_8_code 2 = .ok (.iload_n 2, 1) := by decide +kernel
theorem d_H_pair_3 : decode prog_1_method_8_code 3 = .ok (.invokevirtual 50, 3) := by decide +kernel
theorem d_H_pair_6 : decode prog_1_method_8_code 6 = .ok (.iload_n 1, 1) := by decide +kernel
theorem d_H_pair_7 : decode prog_1_method_8_code 7 = .ok (.iload_n 2, 1) := by decide +kernel
theorem d_H_pair_8 : decode prog_1_method_8_code 8 = .ok (.if_icmp .ne 11, 3) := by decide +kernel
theorem d_H_pair_11 : decode prog_1_method_8_code 11 = .ok (.new 43, 3) := by decide +kernel
theorem d_H_pair_14 : decode prog_1_method_8_code 14 = .ok (.dup, 1) := by decide +kernel
theorem d_H_pair_15 : decode prog_1_method_8_code 15 = .ok (.invokespecial 45, 3) := by decide +kernel
theorem d_H_pair_18 : decode prog_1_method_8_code 18 = .ok (.athrow, 1) := by decide +kernel
theorem d_H_pair_19 : decode prog_1_method_8_code 19 = .ok (.aload_n 0, 1) := by decide +kernel
theorem d_H_pair_20 : decode prog_1_method_8_code 20 = .ok (.getfield 10, 3) := by decide +kernel
theorem d_H_pair_23 : decode prog_1_method_8_code 23 = .ok (.iload_n 1, 1) := by decide +kernel
theorem d_H_pair_24 : decode prog_1_method_8_code 24 = .ok (.iload_n 2, 1) := by decide +kernel
theorem d_H_pair_25 : decode prog_1_method_8_code 25 = .ok (.invokevirtual 90, 3) := by decide +kernel
theorem d_H_pair_28 : decode prog_1_method_8_code 28 = .ok (.ifCond .ne 11, 3) := by decide +kernel
theorem d_H_pair_31 : decode prog_1_method_8_code 31 = .ok (.new 58, 3) := by decide +kernel
theorem d_H_pair_34 : decode prog_1_method_8_code 34 = .ok (.dup, 1) := by decide +kernel
theorem d_H_pair_35 : decode prog_1_method_8_code 35 = .ok (.invokespecial 60, 3) := by decide +kernel
theorem d_H_pair_38 : decode prog_1_method_8_code 38 = .ok (.athrow, 1) := by decide +kernel
theorem d_H_pair_39 : decode prog_1_method_8_code 39 = .ok (.aload_n 0, 1) := by decide +kernel
theorem d_H_pair_40 : decode prog_1_method_8_code 40 = .ok (.getfield 21, 3) := by decide +kernel
theorem d_H_pair_43 : decode prog_1_method_8_code 43 = .ok (.iload_n 1, 1) := by decide +kernel
theorem d_H_pair_44 : decode prog_1_method_8_code 44 = .ok (.iload_n 2, 1) := by decide +kernel
theorem d_H_pair_45 : decode prog_1_method_8_code 45 = .ok (.invokevirtual 94, 3) := by decide +kernel
theorem d_H_pair_48 : decode prog_1_method_8_code 48 = .ok (.aload_n 0, 1) := by decide +kernel
theorem d_H_pair_49 : decode prog_1_method_8_code 49 = .ok (.getfield 21, 3) := by decide +kernel
theorem d_H_pair_52 : decode prog_1_method_8_code 52 = .ok (.invokevirtual 97, 3) := by decide +kernel
theorem d_H_pair_55 : decode prog_1_method_8_code 55 = .ok (.ireturn, 1) := by decide +kernel
theorem d_H_partner_0 : decode prog_1_method_9_code 0 = .ok (.aload_n 0, 1) := by decide +kernel
theorem d_H_partner_1 : decode prog_1_method_9_code 1 = .ok (.iload_n 1, 1) := by decide +kernel
theorem d_H_partner_2 : decode prog_1_method_9_code 2 = .ok (.invokevirtual 68, 3) := by decide +kernel
theorem d_H_partner_5 : decode prog_1_method_9_code 5 = .ok (.aload_n 0, 1) := by decide +kernel
theorem d_H_partner_6 : decode prog_1_method_9_code 6 = .ok (.getfield 21, 3) := by decide +kernel
theorem d_H_partner_9 : decode prog_1_method_9_code 9 = .ok (.iload_n 1, 1) := by decide +kernel
theorem d_H_partner_10 : decode prog_1_method_9_code 10 = .ok (.invokevirtual 100, 3) := by decide +kernel
theorem d_H_partner_13 : decode prog_1_method_9_code 13 = .ok (.ireturn, 1) := by decide +kernel
theorem d_H_blocking_0 : decode prog_1_method_10_code 0 = .ok (.aload_n 0, 1) := by decide +kernel
theorem d_H_blocking_1 : decode prog_1_method_10_code 1 = .ok (.getfield 21, 3) := by decide +kernel
theorem d_H_blocking_4 : decode prog_1_method_10_code 4 = .ok (.invokevirtual 97, 3) := by decide +kernel
theorem d_H_blocking_7 : decode prog_1_method_10_code 7 = .ok (.ireturn, 1) := by decide +kernel
theorem d_H_satisfy_0 : decode prog_1_method_11_code 0 = .ok (.aload_n 0, 1) := by decide +kernel
theorem d_H_satisfy_1 : decode prog_1_method_11_code 1 = .ok (.getfield 21, 3) := by decide +kernel
theorem d_H_satisfy_4 : decode prog_1_method_11_code 4 = .ok (.invokevirtual 103, 3) := by decide +kernel
theorem d_H_satisfy_7 : decode prog_1_method_11_code 7 = .ok (.ireturn, 1) := by decide +kernel
theorem d_H_matchings_0 : decode prog_1_method_12_code 0 = .ok (.aload_n 0, 1) := by decide +kernel
theorem d_H_matchings_1 : decode prog_1_method_12_code 1 = .ok (.getfield 28, 3) := by decide +kernel
theorem d_H_matchings_4 : decode prog_1_method_12_code 4 = .ok (.invokevirtual 106, 3) := by decide +kernel
theorem d_H_matchings_7 : decode prog_1_method_12_code 7 = .ok (.ireturn, 1) := by decide +kernel
theorem d_H_matched_0 : decode prog_1_method_13_code 0 = .ok (.aload_n 0, 1) := by decide +kernel
theorem d_H_matched_1 : decode prog_1_method_13_code 1 = .ok (.iload_n 1, 1) := by decide +kernel
theorem d_H_matched_2 : decode prog_1_method_13_code 2 = .ok (.invokevirtual 68, 3) := by decide +kernel
theorem d_H_matched_5 : decode prog_1_method_13_code 5 = .ok (.aload_n 0, 1) := by decide +kernel
theorem d_H_matched_6 : decode prog_1_method_13_code 6 = .ok (.getfield 28, 3) := by decide +kernel
theorem d_H_matched_9 : decode prog_1_method_13_code 9 = .ok (.iload_n 1, 1) := by decide +kernel
theorem d_H_matched_10 : decode prog_1_method_13_code 10 = .ok (.invokevirtual 109, 3) := by decide +kernel
theorem d_H_matched_13 : decode prog_1_method_13_code 13 = .ok (.ireturn, 1) := by decide +kernel
theorem d_H_extreme_0 : decode prog_1_method_14_code 0 = .ok (.aload_n 0, 1) := by decide +kernel
theorem d_H_extreme_1 : decode prog_1_method_14_code 1 = .ok (.iload_n 1, 1) := by decide +kernel
theorem d_H_extreme_2 : decode prog_1_method_14_code 2 = .ok (.invokevirtual 68, 3) := by decide +kernel
theorem d_H_extreme_5 : decode prog_1_method_14_code 5 = .ok (.iload_n 2, 1) := by decide +kernel
theorem d_H_extreme_6 : decode prog_1_method_14_code 6 = .ok (.ifCond .eq 14, 3) := by decide +kernel
theorem d_H_extreme_9 : decode prog_1_method_14_code 9 = .ok (.aload_n 0, 1) := by decide +kernel
theorem d_H_extreme_10 : decode prog_1_method_14_code 10 = .ok (.getfield 28, 3) := by decide +kernel
theorem d_H_extreme_13 : decode prog_1_method_14_code 13 = .ok (.iload_n 1, 1) := by decide +kernel
theorem d_H_extreme_14 : decode prog_1_method_14_code 14 = .ok (.invokevirtual 112, 3) := by decide +kernel
theorem d_H_extreme_17 : decode prog_1_method_14_code 17 = .ok (.goto 11, 3) := by decide +kernel
theorem d_H_extreme_20 : decode prog_1_method_14_code 20 = .ok (.aload_n 0, 1) := by decide +kernel
theorem d_H_extreme_21 : decode prog_1_method_14_code 21 = .ok (.getfield 28, 3) := by decide +kernel
theorem d_H_extreme_24 : decode prog_1_method_14_code 24 = .ok (.iload_n 1, 1) := by decide +kernel
theorem d_H_extreme_25 : decode prog_1_method_14_code 25 = .ok (.invokevirtual 115, 3) := by decide +kernel
theorem d_H_extreme_28 : decode prog_1_method_14_code 28 = .ok (.ireturn, 1) := by decide +kernel
theorem d_H_together_0 : decode prog_1_method_15_code 0 = .ok (.aload_n 0, 1) := by decide +kernel
theorem d_H_together_1 : decode prog_1_method_15_code 1 = .ok (.iload_n 1, 1) := by decide +kernel
theorem d_H_together_2 : decode prog_1_method_15_code 2 = .ok (.iload_n 2, 1) := by decide +kernel
theorem d_H_together_3 : decode prog_1_method_15_code 3 = .ok (.invokevirtual 50, 3) := by decide +kernel
theorem d_H_together_6 : decode prog_1_method_15_code 6 = .ok (.aload_n 0, 1) := by decide +kernel
theorem d_H_together_7 : decode prog_1_method_15_code 7 = .ok (.getfield 28, 3) := by decide +kernel
theorem d_H_together_10 : decode prog_1_method_15_code 10 = .ok (.iload_n 1, 1) := by decide +kernel
theorem d_H_together_11 : decode prog_1_method_15_code 11 = .ok (.iload_n 2, 1) := by decide +kernel
theorem d_H_together_12 : decode prog_1_method_15_code 12 = .ok (.invokevirtual 118, 3) := by decide +kernel
theorem d_H_together_15 : decode prog_1_method_15_code 15 = .ok (.ireturn, 1) := by decide +kernel
theorem d_H_party_0 : decode prog_1_method_16_code 0 = .ok (.aload_n 0, 1) := by decide +kernel
theorem d_H_party_1 : decode prog_1_method_16_code 1 = .ok (.iload_n 1, 1) := by decide +kernel
theorem d_H_party_2 : decode prog_1_method_16_code 2 = .ok (.invokevirtual 68, 3) := by decide +kernel
theorem d_H_party_5 : decode prog_1_method_16_code 5 = .ok (.aload_n 0, 1) := by decide +kernel
theorem d_H_party_6 : decode prog_1_method_16_code 6 = .ok (.getfield 35, 3) := by decide +kernel
theorem d_H_party_9 : decode prog_1_method_16_code 9 = .ok (.iload_n 1, 1) := by decide +kernel
theorem d_H_party_10 : decode prog_1_method_16_code 10 = .ok (.invokevirtual 121, 3) := by decide +kernel
theorem d_H_party_13 : decode prog_1_method_16_code 13 = .ok (.ireturn, 1) := by decide +kernel
theorem d_H_next_0 : decode prog_1_method_17_code 0 = .ok (.aload_n 0, 1) := by decide +kernel
theorem d_H_next_1 : decode prog_1_method_17_code 1 = .ok (.iload_n 1, 1) := by decide +kernel
theorem d_H_next_2 : decode prog_1_method_17_code 2 = .ok (.invokevirtual 68, 3) := by decide +kernel
theorem d_H_next_5 : decode prog_1_method_17_code 5 = .ok (.aload_n 0, 1) := by decide +kernel
theorem d_H_next_6 : decode prog_1_method_17_code 6 = .ok (.getfield 35, 3) := by decide +kernel
theorem d_H_next_9 : decode prog_1_method_17_code 9 = .ok (.iload_n 1, 1) := by decide +kernel
theorem d_H_next_10 : decode prog_1_method_17_code 10 = .ok (.invokevirtual 124, 3) := by decide +kernel
theorem d_H_next_13 : decode prog_1_method_17_code 13 = .ok (.ireturn, 1) := by decide +kernel
theorem d_H_parties_0 : decode prog_1_method_18_code 0 = .ok (.iload_n 1, 1) := by decide +kernel
theorem d_H_parties_1 : decode prog_1_method_18_code 1 = .ok (.ifCond .eq 13, 3) := by decide +kernel
theorem d_H_parties_4 : decode prog_1_method_18_code 4 = .ok (.aload_n 0, 1) := by decide +kernel
theorem d_H_parties_5 : decode prog_1_method_18_code 5 = .ok (.getfield 35, 3) := by decide +kernel
theorem d_H_parties_8 : decode prog_1_method_18_code 8 = .ok (.invokevirtual 127, 3) := by decide +kernel
theorem d_H_parties_11 : decode prog_1_method_18_code 11 = .ok (.goto 10, 3) := by decide +kernel
theorem d_H_parties_14 : decode prog_1_method_18_code 14 = .ok (.aload_n 0, 1) := by decide +kernel
theorem d_H_parties_15 : decode prog_1_method_18_code 15 = .ok (.getfield 35, 3) := by decide +kernel
theorem d_H_parties_18 : decode prog_1_method_18_code 18 = .ok (.invokevirtual 130, 3) := by decide +kernel
theorem d_H_parties_21 : decode prog_1_method_18_code 21 = .ok (.ireturn, 1) := by decide +kernel
theorem d_H_size_0 : decode prog_1_method_19_code 0 = .ok (.aload_n 0, 1) := by decide +kernel
theorem d_H_size_1 : decode prog_1_method_19_code 1 = .ok (.getfield 10, 3) := by decide +kernel
theorem d_H_size_4 : decode prog_1_method_19_code 4 = .ok (.invokevirtual 46, 3) := by decide +kernel
theorem d_H_size_7 : decode prog_1_method_19_code 7 = .ok (.ireturn, 1) := by decide +kernel
theorem d_H_astray_0 : decode prog_1_method_20_code 0 = .ok (.aload_n 0, 1) := by decide +kernel
theorem d_H_astray_1 : decode prog_1_method_20_code 1 = .ok (.getfield 21, 3) := by decide +kernel
theorem d_H_astray_4 : decode prog_1_method_20_code 4 = .ok (.invokevirtual 133, 3) := by decide +kernel
theorem d_H_astray_7 : decode prog_1_method_20_code 7 = .ok (.ireturn, 1) := by decide +kernel
theorem d_H_startWith_0 : decode prog_1_method_21_code 0 = .ok (.aload_n 0, 1) := by decide +kernel
theorem d_H_startWith_1 : decode prog_1_method_21_code 1 = .ok (.getfield 10, 3) := by decide +kernel
theorem d_H_startWith_4 : decode prog_1_method_21_code 4 = .ok (.iload_n 1, 1) := by decide +kernel
theorem d_H_startWith_5 : decode prog_1_method_21_code 5 = .ok (.invokevirtual 136, 3) := by decide +kernel
theorem d_H_startWith_8 : decode prog_1_method_21_code 8 = .ok (.aload_n 0, 1) := by decide +kernel
theorem d_H_startWith_9 : decode prog_1_method_21_code 9 = .ok (.getfield 21, 3) := by decide +kernel
theorem d_H_startWith_12 : decode prog_1_method_21_code 12 = .ok (.invokevirtual 139, 3) := by decide +kernel
theorem d_H_startWith_15 : decode prog_1_method_21_code 15 = .ok (.return_, 1) := by decide +kernel
theorem d_H_demandPerson_0 : decode prog_1_method_22_code 0 = .ok (.iload_n 1, 1) := by decide +kernel
theorem d_H_demandPerson_1 : decode prog_1_method_22_code 1 = .ok (.ifCond .lt 14, 3) := by decide +kernel
theorem d_H_demandPerson_4 : decode prog_1_method_22_code 4 = .ok (.iload_n 1, 1) := by decide +kernel
theorem d_H_demandPerson_5 : decode prog_1_method_22_code 5 = .ok (.aload_n 0, 1) := by decide +kernel
theorem d_H_demandPerson_6 : decode prog_1_method_22_code 6 = .ok (.getfield 10, 3) := by decide +kernel
theorem d_H_demandPerson_9 : decode prog_1_method_22_code 9 = .ok (.invokevirtual 46, 3) := by decide +kernel
theorem d_H_demandPerson_12 : decode prog_1_method_22_code 12 = .ok (.if_icmp .lt 11, 3) := by decide +kernel
theorem d_H_demandPerson_15 : decode prog_1_method_22_code 15 = .ok (.new 87, 3) := by decide +kernel
theorem d_H_demandPerson_18 : decode prog_1_method_22_code 18 = .ok (.dup, 1) := by decide +kernel
theorem d_H_demandPerson_19 : decode prog_1_method_22_code 19 = .ok (.invokespecial 89, 3) := by decide +kernel
theorem d_H_demandPerson_22 : decode prog_1_method_22_code 22 = .ok (.athrow, 1) := by decide +kernel
theorem d_H_demandPerson_23 : decode prog_1_method_22_code 23 = .ok (.return_, 1) := by decide +kernel
theorem d_H_demandPersons_0 : decode prog_1_method_23_code 0 = .ok (.aload_n 0, 1) := by decide +kernel
theorem d_H_demandPersons_1 : decode prog_1_method_23_code 1 = .ok (.iload_n 1, 1) := by decide +kernel
theorem d_H_demandPersons_2 : decode prog_1_method_23_code 2 = .ok (.invokevirtual 68, 3) := by decide +kernel
theorem d_H_demandPersons_5 : decode prog_1_method_23_code 5 = .ok (.aload_n 0, 1) := by decide +kernel
theorem d_H_demandPersons_6 : decode prog_1_method_23_code 6 = .ok (.iload_n 2, 1) := by decide +kernel
theorem d_H_demandPersons_7 : decode prog_1_method_23_code 7 = .ok (.invokevirtual 68, 3) := by decide +kernel
theorem d_H_demandPersons_10 : decode prog_1_method_23_code 10 = .ok (.return_, 1) := by decide +kernel
theorem d_H_demandPlace_0 : decode prog_1_method_24_code 0 = .ok (.iload_n 2, 1) := by decide +kernel
theorem d_H_demandPlace_1 : decode prog_1_method_24_code 1 = .ok (.ifCond .lt 15, 3) := by decide +kernel
theorem d_H_demandPlace_4 : decode prog_1_method_24_code 4 = .ok (.iload_n 2, 1) := by decide +kernel
theorem d_H_demandPlace_5 : decode prog_1_method_24_code 5 = .ok (.aload_n 0, 1) := by decide +kernel
theorem d_H_demandPlace_6 : decode prog_1_method_24_code 6 = .ok (.getfield 10, 3) := by decide +kernel
theorem d_H_demandPlace_9 : decode prog_1_method_24_code 9 = .ok (.iload_n 1, 1) := by decide +kernel
theorem d_H_demandPlace_10 : decode prog_1_method_24_code 10 = .ok (.invokevirtual 64, 3) := by decide +kernel
theorem d_H_demandPlace_13 : decode prog_1_method_24_code 13 = .ok (.if_icmp .lt 11, 3) := by decide +kernel
theorem d_H_demandPlace_16 : decode prog_1_method_24_code 16 = .ok (.new 87, 3) := by decide +kernel
theorem d_H_demandPlace_19 : decode prog_1_method_24_code 19 = .ok (.dup, 1) := by decide +kernel
theorem d_H_demandPlace_20 : decode prog_1_method_24_code 20 = .ok (.invokespecial 89, 3) := by decide +kernel
theorem d_H_demandPlace_23 : decode prog_1_method_24_code 23 = .ok (.athrow, 1) := by decide +kernel
theorem d_H_demandPlace_24 : decode prog_1_method_24_code 24 = .ok (.return_, 1) := by decide +kernel
end
section
/-! what stands where: L -/
theorem d_L_people_0 : decode method_3_code 0 = .ok (.aload_n 2, 1) := by decide +kernel
theorem d_L_people_1 : decode method_3_code 1 = .ok (.iconst 0, 1) := by decide +kernel
theorem d_L_people_2 : decode method_3_code 2 = .ok (.aload_n 0, 1) := by decide +kernel
theorem d_L_people_3 : decode method_3_code 3 = .ok (.iload_n 1, 1) := by decide +kernel
theorem d_L_people_4 : decode method_3_code 4 = .ok (.invokevirtual 7, 3) := by decide +kernel
theorem d_L_people_7 : decode method_3_code 7 = .ok (.i2l, 1) := by decide +kernel
theorem d_L_people_8 : decode method_3_code 8 = .ok (.lastore, 1) := by decide +kernel
theorem d_L_people_9 : decode method_3_code 9 = .ok (.goto 6, 3) := by decide +kernel
theorem d_L_people_12 : decode method_3_code 12 = .ok (.astore_n 3, 1) := by decide +kernel
theorem d_L_people_13 : decode method_3_code 13 = .ok (.iconst 1, 1) := by decide +kernel
theorem d_L_people_14 : decode method_3_code 14 = .ok (.ireturn, 1) := by decide +kernel
theorem d_L_people_15 : decode method_3_code 15 = .ok (.iconst 0, 1) := by decide +kernel
theorem d_L_people_16 : decode method_3_code 16 = .ok (.ireturn, 1) := by decide +kernel
theorem d_L_put_0 : decode method_4_code 0 = .ok (.aload_n 3, 1) := by decide +kernel
theorem d_L_put_1 : decode method_4_code 1 = .ok (.iconst 0, 1) := by decide +kernel
theorem d_L_put_2 : decode method_4_code 2 = .ok (.aload_n 0, 1) := by decide +kernel
theorem d_L_put_3 : decode method_4_code 3 = .ok (.iload_n 1, 1) := by decide +kernel
theorem d_L_put_4 : decode method_4_code 4 = .ok (.iload_n 2, 1) := by decide +kernel
theorem d_L_put_5 : decode method_4_code 5 = .ok (.invokevirtual 15, 3) := by decide +kernel
theorem d_L_put_8 : decode method_4_code 8 = .ok (.i2l, 1) := by decide +kernel
theorem d_L_put_9 : decode method_4_code 9 = .ok (.lastore, 1) := by decide +kernel
theorem d_L_put_10 : decode method_4_code 10 = .ok (.goto 15, 3) := by decide +kernel
theorem d_L_put_13 : decode method_4_code 13 = .ok (.astore 4, 2) := by decide +kernel
theorem d_L_put_15 : decode method_4_code 15 = .ok (.iconst 1, 1) := by decide +kernel
theorem d_L_put_16 : decode method_4_code 16 = .ok (.ireturn, 1) := by decide +kernel
theorem d_L_put_17 : decode method_4_code 17 = .ok (.astore 4, 2) := by decide +kernel
theorem d_L_put_19 : decode method_4_code 19 = .ok (.iconst 2, 1) := by decide +kernel
theorem d_L_put_20 : decode method_4_code 20 = .ok (.ireturn, 1) := by decide +kernel
theorem d_L_put_21 : decode method_4_code 21 = .ok (.astore 4, 2) := by decide +kernel
theorem d_L_put_23 : decode method_4_code 23 = .ok (.iconst 3, 1) := by decide +kernel
theorem d_L_put_24 : decode method_4_code 24 = .ok (.ireturn, 1) := by decide +kernel
theorem d_L_put_25 : decode method_4_code 25 = .ok (.iconst 0, 1) := by decide +kernel
theorem d_L_put_26 : decode method_4_code 26 = .ok (.ireturn, 1) := by decide +kernel
theorem d_L_remove_0 : decode method_5_code 0 = .ok (.aload_n 3, 1) := by decide +kernel
theorem d_L_remove_1 : decode method_5_code 1 = .ok (.iconst 0, 1) := by decide +kernel
theorem d_L_remove_2 : decode method_5_code 2 = .ok (.aload_n 0, 1) := by decide +kernel
theorem d_L_remove_3 : decode method_5_code 3 = .ok (.iload_n 1, 1) := by decide +kernel
theorem d_L_remove_4 : decode method_5_code 4 = .ok (.iload_n 2, 1) := by decide +kernel
theorem d_L_remove_5 : decode method_5_code 5 = .ok (.invokevirtual 23, 3) := by decide +kernel
theorem d_L_remove_8 : decode method_5_code 8 = .ok (.i2l, 1) := by decide +kernel
theorem d_L_remove_9 : decode method_5_code 9 = .ok (.lastore, 1) := by decide +kernel
theorem d_L_remove_10 : decode method_5_code 10 = .ok (.goto 7, 3) := by decide +kernel
theorem d_L_remove_13 : decode method_5_code 13 = .ok (.astore 4, 2) := by decide +kernel
theorem d_L_remove_15 : decode method_5_code 15 = .ok (.iconst 1, 1) := by decide +kernel
theorem d_L_remove_16 : decode method_5_code 16 = .ok (.ireturn, 1) := by decide +kernel
theorem d_L_remove_17 : decode method_5_code 17 = .ok (.iconst 0, 1) := by decide +kernel
theorem d_L_remove_18 : decode method_5_code 18 = .ok (.ireturn, 1) := by decide +kernel
theorem d_L_move_0 : decode method_6_code 0 = .ok (.aload 4, 2) := by decide +kernel
theorem d_L_move_2 : decode method_6_code 2 = .ok (.iconst 0, 1) := by decide +kernel
theorem d_L_move_3 : decode method_6_code 3 = .ok (.aload_n 0, 1) := by decide +kernel
theorem d_L_move_4 : decode method_6_code 4 = .ok (.iload_n 1, 1) := by decide +kernel
theorem d_L_move_5 : decode method_6_code 5 = .ok (.iload_n 2, 1) := by decide +kernel
theorem d_L_move_6 : decode method_6_code 6 = .ok (.iload_n 3, 1) := by decide +kernel
theorem d_L_move_7 : decode method_6_code 7 = .ok (.invokevirtual 26, 3) := by decide +kernel
theorem d_L_move_10 : decode method_6_code 10 = .ok (.i2l, 1) := by decide +kernel
theorem d_L_move_11 : decode method_6_code 11 = .ok (.lastore, 1) := by decide +kernel
theorem d_L_move_12 : decode method_6_code 12 = .ok (.goto 7, 3) := by decide +kernel
theorem d_L_move_15 : decode method_6_code 15 = .ok (.astore 5, 2) := by decide +kernel
theorem d_L_move_17 : decode method_6_code 17 = .ok (.iconst 1, 1) := by decide +kernel
theorem d_L_move_18 : decode method_6_code 18 = .ok (.ireturn, 1) := by decide +kernel
theorem d_L_move_19 : decode method_6_code 19 = .ok (.iconst 0, 1) := by decide +kernel
theorem d_L_move_20 : decode method_6_code 20 = .ok (.ireturn, 1) := by decide +kernel
theorem d_L_at_0 : decode method_7_code 0 = .ok (.aload_n 3, 1) := by decide +kernel
theorem d_L_at_1 : decode method_7_code 1 = .ok (.iconst 0, 1) := by decide +kernel
theorem d_L_at_2 : decode method_7_code 2 = .ok (.aload_n 0, 1) := by decide +kernel
theorem d_L_at_3 : decode method_7_code 3 = .ok (.iload_n 1, 1) := by decide +kernel
theorem d_L_at_4 : decode method_7_code 4 = .ok (.iload_n 2, 1) := by decide +kernel
theorem d_L_at_5 : decode method_7_code 5 = .ok (.invokevirtual 30, 3) := by decide +kernel
theorem d_L_at_8 : decode method_7_code 8 = .ok (.i2l, 1) := by decide +kernel
theorem d_L_at_9 : decode method_7_code 9 = .ok (.lastore, 1) := by decide +kernel
theorem d_L_at_10 : decode method_7_code 10 = .ok (.goto 7, 3) := by decide +kernel
theorem d_L_at_13 : decode method_7_code 13 = .ok (.astore 4, 2) := by decide +kernel
theorem d_L_at_15 : decode method_7_code 15 = .ok (.iconst 1, 1) := by decide +kernel
theorem d_L_at_16 : decode method_7_code 16 = .ok (.ireturn, 1) := by decide +kernel
theorem d_L_at_17 : decode method_7_code 17 = .ok (.iconst 0, 1) := by decide +kernel
theorem d_L_at_18 : decode method_7_code 18 = .ok (.ireturn, 1) := by decide +kernel
theorem d_L_place_0 : decode method_8_code 0 = .ok (.aload_n 3, 1) := by decide +kernel
theorem d_L_place_1 : decode method_8_code 1 = .ok (.iconst 0, 1) := by decide +kernel
theorem d_L_place_2 : decode method_8_code 2 = .ok (.aload_n 0, 1) := by decide +kernel
theorem d_L_place_3 : decode method_8_code 3 = .ok (.iload_n 1, 1) := by decide +kernel
theorem d_L_place_4 : decode method_8_code 4 = .ok (.iload_n 2, 1) := by decide +kernel
theorem d_L_place_5 : decode method_8_code 5 = .ok (.invokevirtual 33, 3) := by decide +kernel
theorem d_L_place_8 : decode method_8_code 8 = .ok (.i2l, 1) := by decide +kernel
theorem d_L_place_9 : decode method_8_code 9 = .ok (.lastore, 1) := by decide +kernel
theorem d_L_place_10 : decode method_8_code 10 = .ok (.goto 7, 3) := by decide +kernel
theorem d_L_place_13 : decode method_8_code 13 = .ok (.astore 4, 2) := by decide +kernel
theorem d_L_place_15 : decode method_8_code 15 = .ok (.iconst 1, 1) := by decide +kernel
theorem d_L_place_16 : decode method_8_code 16 = .ok (.ireturn, 1) := by decide +kernel
theorem d_L_place_17 : decode method_8_code 17 = .ok (.iconst 0, 1) := by decide +kernel
theorem d_L_place_18 : decode method_8_code 18 = .ok (.ireturn, 1) := by decide +kernel
theorem d_L_pair_0 : decode method_9_code 0 = .ok (.aload_n 3, 1) := by decide +kernel
theorem d_L_pair_1 : decode method_9_code 1 = .ok (.iconst 0, 1) := by decide +kernel
theorem d_L_pair_2 : decode method_9_code 2 = .ok (.aload_n 0, 1) := by decide +kernel
theorem d_L_pair_3 : decode method_9_code 3 = .ok (.iload_n 1, 1) := by decide +kernel
theorem d_L_pair_4 : decode method_9_code 4 = .ok (.iload_n 2, 1) := by decide +kernel
theorem d_L_pair_5 : decode method_9_code 5 = .ok (.invokevirtual 36, 3) := by decide +kernel
theorem d_L_pair_8 : decode method_9_code 8 = .ok (.i2l, 1) := by decide +kernel
theorem d_L_pair_9 : decode method_9_code 9 = .ok (.lastore, 1) := by decide +kernel
theorem d_L_pair_10 : decode method_9_code 10 = .ok (.goto 15, 3) := by decide +kernel
theorem d_L_pair_13 : decode method_9_code 13 = .ok (.astore 4, 2) := by decide +kernel
theorem d_L_pair_15 : decode method_9_code 15 = .ok (.iconst 1, 1) := by decide +kernel
theorem d_L_pair_16 : decode method_9_code 16 = .ok (.ireturn, 1) := by decide +kernel
theorem d_L_pair_17 : decode method_9_code 17 = .ok (.astore 4, 2) := by decide +kernel
theorem d_L_pair_19 : decode method_9_code 19 = .ok (.iconst 2, 1) := by decide +kernel
theorem d_L_pair_20 : decode method_9_code 20 = .ok (.ireturn, 1) := by decide +kernel
theorem d_L_pair_21 : decode method_9_code 21 = .ok (.astore 4, 2) := by decide +kernel
theorem d_L_pair_23 : decode method_9_code 23 = .ok (.iconst 3, 1) := by decide +kernel
theorem d_L_pair_24 : decode method_9_code 24 = .ok (.ireturn, 1) := by decide +kernel
theorem d_L_pair_25 : decode method_9_code 25 = .ok (.iconst 0, 1) := by decide +kernel
theorem d_L_pair_26 : decode method_9_code 26 = .ok (.ireturn, 1) := by decide +kernel
theorem d_L_partner_0 : decode method_10_code 0 = .ok (.aload_n 2, 1) := by decide +kernel
theorem d_L_partner_1 : decode method_10_code 1 = .ok (.iconst 0, 1) := by decide +kernel
theorem d_L_partner_2 : decode method_10_code 2 = .ok (.aload_n 0, 1) := by decide +kernel
theorem d_L_partner_3 : decode method_10_code 3 = .ok (.iload_n 1, 1) := by decide +kernel
theorem d_L_partner_4 : decode method_10_code 4 = .ok (.invokevirtual 39, 3) := by decide +kernel
theorem d_L_partner_7 : decode method_10_code 7 = .ok (.i2l, 1) := by decide +kernel
theorem d_L_partner_8 : decode method_10_code 8 = .ok (.lastore, 1) := by decide +kernel
theorem d_L_partner_9 : decode method_10_code 9 = .ok (.goto 6, 3) := by decide +kernel
theorem d_L_partner_12 : decode method_10_code 12 = .ok (.astore_n 3, 1) := by decide +kernel
theorem d_L_partner_13 : decode method_10_code 13 = .ok (.iconst 1, 1) := by decide +kernel
theorem d_L_partner_14 : decode method_10_code 14 = .ok (.ireturn, 1) := by decide +kernel
theorem d_L_partner_15 : decode method_10_code 15 = .ok (.iconst 0, 1) := by decide +kernel
theorem d_L_partner_16 : decode method_10_code 16 = .ok (.ireturn, 1) := by decide +kernel
theorem d_L_matched_0 : decode method_11_code 0 = .ok (.aload_n 2, 1) := by decide +kernel
theorem d_L_matched_1 : decode method_11_code 1 = .ok (.iconst 0, 1) := by decide +kernel
theorem d_L_matched_2 : decode method_11_code 2 = .ok (.aload_n 0, 1) := by decide +kernel
theorem d_L_matched_3 : decode method_11_code 3 = .ok (.iload_n 1, 1) := by decide +kernel
theorem d_L_matched_4 : decode method_11_code 4 = .ok (.invokevirtual 42, 3) := by decide +kernel
theorem d_L_matched_7 : decode method_11_code 7 = .ok (.i2l, 1) := by decide +kernel
theorem d_L_matched_8 : decode method_11_code 8 = .ok (.lastore, 1) := by decide +kernel
theorem d_L_matched_9 : decode method_11_code 9 = .ok (.goto 6, 3) := by decide +kernel
theorem d_L_matched_12 : decode method_11_code 12 = .ok (.astore_n 3, 1) := by decide +kernel
theorem d_L_matched_13 : decode method_11_code 13 = .ok (.iconst 1, 1) := by decide +kernel
theorem d_L_matched_14 : decode method_11_code 14 = .ok (.ireturn, 1) := by decide +kernel
theorem d_L_matched_15 : decode method_11_code 15 = .ok (.iconst 0, 1) := by decide +kernel
theorem d_L_matched_16 : decode method_11_code 16 = .ok (.ireturn, 1) := by decide +kernel
theorem d_L_extreme_0 : decode method_12_code 0 = .ok (.aload_n 3, 1) := by decide +kernel
theorem d_L_extreme_1 : decode method_12_code 1 = .ok (.iconst 0, 1) := by decide +kernel
theorem d_L_extreme_2 : decode method_12_code 2 = .ok (.aload_n 0, 1) := by decide +kernel
theorem d_L_extreme_3 : decode method_12_code 3 = .ok (.iload_n 1, 1) := by decide +kernel
theorem d_L_extreme_4 : decode method_12_code 4 = .ok (.iload_n 2, 1) := by decide +kernel
theorem d_L_extreme_5 : decode method_12_code 5 = .ok (.invokevirtual 45, 3) := by decide +kernel
theorem d_L_extreme_8 : decode method_12_code 8 = .ok (.i2l, 1) := by decide +kernel
theorem d_L_extreme_9 : decode method_12_code 9 = .ok (.lastore, 1) := by decide +kernel
theorem d_L_extreme_10 : decode method_12_code 10 = .ok (.goto 7, 3) := by decide +kernel
theorem d_L_extreme_13 : decode method_12_code 13 = .ok (.astore 4, 2) := by decide +kernel
theorem d_L_extreme_15 : decode method_12_code 15 = .ok (.iconst 1, 1) := by decide +kernel
theorem d_L_extreme_16 : decode method_12_code 16 = .ok (.ireturn, 1) := by decide +kernel
theorem d_L_extreme_17 : decode method_12_code 17 = .ok (.iconst 0, 1) := by decide +kernel
theorem d_L_extreme_18 : decode method_12_code 18 = .ok (.ireturn, 1) := by decide +kernel
theorem d_L_together_0 : decode method_13_code 0 = .ok (.aload_n 3, 1) := by decide +kernel
theorem d_L_together_1 : decode method_13_code 1 = .ok (.iconst 0, 1) := by decide +kernel
theorem d_L_together_2 : decode method_13_code 2 = .ok (.aload_n 0, 1) := by decide +kernel
theorem d_L_together_3 : decode method_13_code 3 = .ok (.iload_n 1, 1) := by decide +kernel
theorem d_L_together_4 : decode method_13_code 4 = .ok (.iload_n 2, 1) := by decide +kernel
theorem d_L_together_5 : decode method_13_code 5 = .ok (.invokevirtual 49, 3) := by decide +kernel
theorem d_L_together_8 : decode method_13_code 8 = .ok (.i2l, 1) := by decide +kernel
theorem d_L_together_9 : decode method_13_code 9 = .ok (.lastore, 1) := by decide +kernel
theorem d_L_together_10 : decode method_13_code 10 = .ok (.goto 7, 3) := by decide +kernel
theorem d_L_together_13 : decode method_13_code 13 = .ok (.astore 4, 2) := by decide +kernel
theorem d_L_together_15 : decode method_13_code 15 = .ok (.iconst 1, 1) := by decide +kernel
theorem d_L_together_16 : decode method_13_code 16 = .ok (.ireturn, 1) := by decide +kernel
theorem d_L_together_17 : decode method_13_code 17 = .ok (.iconst 0, 1) := by decide +kernel
theorem d_L_together_18 : decode method_13_code 18 = .ok (.ireturn, 1) := by decide +kernel
theorem d_L_party_0 : decode method_14_code 0 = .ok (.aload_n 2, 1) := by decide +kernel
theorem d_L_party_1 : decode method_14_code 1 = .ok (.iconst 0, 1) := by decide +kernel
theorem d_L_party_2 : decode method_14_code 2 = .ok (.aload_n 0, 1) := by decide +kernel
theorem d_L_party_3 : decode method_14_code 3 = .ok (.iload_n 1, 1) := by decide +kernel
theorem d_L_party_4 : decode method_14_code 4 = .ok (.invokevirtual 52, 3) := by decide +kernel
theorem d_L_party_7 : decode method_14_code 7 = .ok (.i2l, 1) := by decide +kernel
theorem d_L_party_8 : decode method_14_code 8 = .ok (.lastore, 1) := by decide +kernel
theorem d_L_party_9 : decode method_14_code 9 = .ok (.goto 6, 3) := by decide +kernel
theorem d_L_party_12 : decode method_14_code 12 = .ok (.astore_n 3, 1) := by decide +kernel
theorem d_L_party_13 : decode method_14_code 13 = .ok (.iconst 1, 1) := by decide +kernel
theorem d_L_party_14 : decode method_14_code 14 = .ok (.ireturn, 1) := by decide +kernel
theorem d_L_party_15 : decode method_14_code 15 = .ok (.iconst 0, 1) := by decide +kernel
theorem d_L_party_16 : decode method_14_code 16 = .ok (.ireturn, 1) := by decide +kernel
theorem d_L_next_0 : decode method_15_code 0 = .ok (.aload_n 2, 1) := by decide +kernel
theorem d_L_next_1 : decode method_15_code 1 = .ok (.iconst 0, 1) := by decide +kernel
theorem d_L_next_2 : decode method_15_code 2 = .ok (.aload_n 0, 1) := by decide +kernel
theorem d_L_next_3 : decode method_15_code 3 = .ok (.iload_n 1, 1) := by decide +kernel
theorem d_L_next_4 : decode method_15_code 4 = .ok (.invokevirtual 55, 3) := by decide +kernel
theorem d_L_next_7 : decode method_15_code 7 = .ok (.i2l, 1) := by decide +kernel
theorem d_L_next_8 : decode method_15_code 8 = .ok (.lastore, 1) := by decide +kernel
theorem d_L_next_9 : decode method_15_code 9 = .ok (.goto 6, 3) := by decide +kernel
theorem d_L_next_12 : decode method_15_code 12 = .ok (.astore_n 3, 1) := by decide +kernel
theorem d_L_next_13 : decode method_15_code 13 = .ok (.iconst 1, 1) := by decide +kernel
theorem d_L_next_14 : decode method_15_code 14 = .ok (.ireturn, 1) := by decide +kernel
theorem d_L_next_15 : decode method_15_code 15 = .ok (.iconst 0, 1) := by decide +kernel
theorem d_L_next_16 : decode method_15_code 16 = .ok (.ireturn, 1) := by decide +kernel
theorem d_L_law_0 : decode code 0 = .ok (.new 8, 3) := by decide +kernel
theorem d_L_law_3 : decode code 3 = .ok (.dup, 1) := by decide +kernel
theorem d_L_law_4 : decode code 4 = .ok (.invokespecial 58, 3) := by decide +kernel
theorem d_L_law_7 : decode code 7 = .ok (.astore_n 1, 1) := by decide +kernel
theorem d_L_law_8 : decode code 8 = .ok (.new 59, 3) := by decide +kernel
theorem d_L_law_11 : decode code 11 = .ok (.dup, 1) := by decide +kernel
theorem d_L_law_12 : decode code 12 = .ok (.invokespecial 61, 3) := by decide +kernel
theorem d_L_law_15 : decode code 15 = .ok (.astore_n 2, 1) := by decide +kernel
theorem d_L_law_16 : decode code 16 = .ok (.iconst 1, 1) := by decide +kernel
theorem d_L_law_17 : decode code 17 = .ok (.newarray .long, 2) := by decide +kernel
theorem d_L_law_19 : decode code 19 = .ok (.astore_n 3, 1) := by decide +kernel
theorem d_L_law_20 : decode code 20 = .ok (.iconst 0, 1) := by decide +kernel
theorem d_L_law_21 : decode code 21 = .ok (.istore 4, 2) := by decide +kernel
theorem d_L_law_23 : decode code 23 = .ok (.iload 4, 2) := by decide +kernel
theorem d_L_law_25 : decode code 25 = .ok (.aload_n 0, 1) := by decide +kernel
theorem d_L_law_26 : decode code 26 = .ok (.arraylength, 1) := by decide +kernel
theorem d_L_law_27 : decode code 27 = .ok (.iconst 4, 1) := by decide +kernel
theorem d_L_law_28 : decode code 28 = .ok (.isub, 1) := by decide +kernel
theorem d_L_law_29 : decode code 29 = .ok (.if_icmp .gt 1063, 3) := by decide +kernel
theorem d_L_law_32 : decode code 32 = .ok (.aload_n 0, 1) := by decide +kernel
theorem d_L_law_33 : decode code 33 = .ok (.iload 4, 2) := by decide +kernel
theorem d_L_law_35 : decode code 35 = .ok (.iaload, 1) := by decide +kernel
theorem d_L_law_36 : decode code 36 = .ok (.bipush 31, 2) := by decide +kernel
theorem d_L_law_38 : decode code 38 = .ok (.iand, 1) := by decide +kernel
theorem d_L_law_39 : decode code 39 = .ok (.tableswitch 1047 0 18 #[89, 145, 213, 281, 361, 429, 497, 565, 621, 634, 647, 660, 716, 800, 868, 924, 980, 1021, 1034], 89) := by decide +kernel
theorem d_L_law_128 : decode code 128 = .ok (.aload_n 1, 1) := by decide +kernel
theorem d_L_law_129 : decode code 129 = .ok (.aload_n 0, 1) := by decide +kernel
theorem d_L_law_130 : decode code 130 = .ok (.iload 4, 2) := by decide +kernel
theorem d_L_law_132 : decode code 132 = .ok (.iconst 1, 1) := by decide +kernel
theorem d_L_law_133 : decode code 133 = .ok (.iadd, 1) := by decide +kernel
theorem d_L_law_134 : decode code 134 = .ok (.iaload, 1) := by decide +kernel
theorem d_L_law_135 : decode code 135 = .ok (.aload_n 3, 1) := by decide +kernel
theorem d_L_law_136 : decode code 136 = .ok (.invokestatic 62, 3) := by decide +kernel
theorem d_L_law_139 : decode code 139 = .ok (.istore 5, 2) := by decide +kernel
theorem d_L_law_141 : decode code 141 = .ok (.aload_n 2, 1) := by decide +kernel
theorem d_L_law_142 : decode code 142 = .ok (.aload_n 0, 1) := by decide +kernel
theorem d_L_law_143 : decode code 143 = .ok (.iload 4, 2) := by decide +kernel
theorem d_L_law_145 : decode code 145 = .ok (.iconst 1, 1) := by decide +kernel
theorem d_L_law_146 : decode code 146 = .ok (.iadd, 1) := by decide +kernel
theorem d_L_law_147 : decode code 147 = .ok (.iaload, 1) := by decide +kernel
theorem d_L_law_148 : decode code 148 = .ok (.invokevirtual 67, 3) := by decide +kernel
theorem d_L_law_151 : decode code 151 = .ok (.istore 6, 2) := by decide +kernel
theorem d_L_law_153 : decode code 153 = .ok (.aload_n 2, 1) := by decide +kernel
theorem d_L_law_154 : decode code 154 = .ok (.invokevirtual 68, 3) := by decide +kernel
theorem d_L_law_157 : decode code 157 = .ok (.iload 5, 2) := by decide +kernel
theorem d_L_law_159 : decode code 159 = .ok (.if_icmp .eq 5, 3) := by decide +kernel
theorem d_L_law_162 : decode code 162 = .ok (.iconst 0, 1) := by decide +kernel
theorem d_L_law_163 : decode code 163 = .ok (.ireturn, 1) := by decide +kernel
theorem d_L_law_164 : decode code 164 = .ok (.iload 5, 2) := by decide +kernel
theorem d_L_law_166 : decode code 166 = .ok (.ifCond .ne 15, 3) := by decide +kernel
theorem d_L_law_169 : decode code 169 = .ok (.aload_n 3, 1) := by decide +kernel
theorem d_L_law_170 : decode code 170 = .ok (.iconst 0, 1) := by decide +kernel
theorem d_L_law_171 : decode code 171 = .ok (.laload, 1) := by decide +kernel
theorem d_L_law_172 : decode code 172 = .ok (.iload 6, 2) := by decide +kernel
theorem d_L_law_174 : decode code 174 = .ok (.i2l, 1) := by decide +kernel
theorem d_L_law_175 : decode code 175 = .ok (.lcmp, 1) := by decide +kernel
theorem d_L_law_176 : decode code 176 = .ok (.ifCond .eq 5, 3) := by decide +kernel
theorem d_L_law_179 : decode code 179 = .ok (.iconst 0, 1) := by decide +kernel
theorem d_L_law_180 : decode code 180 = .ok (.ireturn, 1) := by decide +kernel
theorem d_L_law_181 : decode code 181 = .ok (.goto 905, 3) := by decide +kernel
theorem d_L_law_184 : decode code 184 = .ok (.aload_n 1, 1) := by decide +kernel
theorem d_L_law_185 : decode code 185 = .ok (.aload_n 0, 1) := by decide +kernel
theorem d_L_law_186 : decode code 186 = .ok (.iload 4, 2) := by decide +kernel
theorem d_L_law_188 : decode code 188 = .ok (.iconst 1, 1) := by decide +kernel
theorem d_L_law_189 : decode code 189 = .ok (.iadd, 1) := by decide +kernel
theorem d_L_law_190 : decode code 190 = .ok (.iaload, 1) := by decide +kernel
theorem d_L_law_191 : decode code 191 = .ok (.aload_n 0, 1) := by decide +kernel
theorem d_L_law_192 : decode code 192 = .ok (.iload 4, 2) := by decide +kernel
theorem d_L_law_194 : decode code 194 = .ok (.iconst 2, 1) := by decide +kernel
theorem d_L_law_195 : decode code 195 = .ok (.iadd, 1) := by decide +kernel
theorem d_L_law_196 : decode code 196 = .ok (.iaload, 1) := by decide +kernel
theorem d_L_law_197 : decode code 197 = .ok (.aload_n 3, 1) := by decide +kernel
theorem d_L_law_198 : decode code 198 = .ok (.invokestatic 72, 3) := by decide +kernel
theorem d_L_law_201 : decode code 201 = .ok (.istore 5, 2) := by decide +kernel
theorem d_L_law_203 : decode code 203 = .ok (.aload_n 2, 1) := by decide +kernel
theorem d_L_law_204 : decode code 204 = .ok (.aload_n 0, 1) := by decide +kernel
theorem d_L_law_205 : decode code 205 = .ok (.iload 4, 2) := by decide +kernel
theorem d_L_law_207 : decode code 207 = .ok (.iconst 1, 1) := by decide +kernel
theorem d_L_law_208 : decode code 208 = .ok (.iadd, 1) := by decide +kernel
theorem d_L_law_209 : decode code 209 = .ok (.iaload, 1) := by decide +kernel
theorem d_L_law_210 : decode code 210 = .ok (.aload_n 0, 1) := by decide +kernel
theorem d_L_law_211 : decode code 211 = .ok (.iload 4, 2) := by decide +kernel
theorem d_L_law_213 : decode code 213 = .ok (.iconst 2, 1) := by decide +kernel
theorem d_L_law_214 : decode code 214 = .ok (.iadd, 1) := by decide +kernel
theorem d_L_law_215 : decode code 215 = .ok (.iaload, 1) := by decide +kernel
theorem d_L_law_216 : decode code 216 = .ok (.invokevirtual 75, 3) := by decide +kernel
theorem d_L_law_219 : decode code 219 = .ok (.istore 6, 2) := by decide +kernel
theorem d_L_law_221 : decode code 221 = .ok (.aload_n 2, 1) := by decide +kernel
theorem d_L_law_222 : decode code 222 = .ok (.invokevirtual 68, 3) := by decide +kernel
theorem d_L_law_225 : decode code 225 = .ok (.iload 5, 2) := by decide +kernel
theorem d_L_law_227 : decode code 227 = .ok (.if_icmp .eq 5, 3) := by decide +kernel
theorem d_L_law_230 : decode code 230 = .ok (.iconst 0, 1) := by decide +kernel
theorem d_L_law_231 : decode code 231 = .ok (.ireturn, 1) := by decide +kernel
theorem d_L_law_232 : decode code 232 = .ok (.iload 5, 2) := by decide +kernel
theorem d_L_law_234 : decode code 234 = .ok (.ifCond .ne 15, 3) := by decide +kernel
theorem d_L_law_237 : decode code 237 = .ok (.aload_n 3, 1) := by decide +kernel
theorem d_L_law_238 : decode code 238 = .ok (.iconst 0, 1) := by decide +kernel
theorem d_L_law_239 : decode code 239 = .ok (.laload, 1) := by decide +kernel
theorem d_L_law_240 : decode code 240 = .ok (.iload 6, 2) := by decide +kernel
theorem d_L_law_242 : decode code 242 = .ok (.i2l, 1) := by decide +kernel
theorem d_L_law_243 : decode code 243 = .ok (.lcmp, 1) := by decide +kernel
theorem d_L_law_244 : decode code 244 = .ok (.ifCond .eq 5, 3) := by decide +kernel
theorem d_L_law_247 : decode code 247 = .ok (.iconst 0, 1) := by decide +kernel
theorem d_L_law_248 : decode code 248 = .ok (.ireturn, 1) := by decide +kernel
theorem d_L_law_249 : decode code 249 = .ok (.goto 837, 3) := by decide +kernel
theorem d_L_law_252 : decode code 252 = .ok (.aload_n 1, 1) := by decide +kernel
theorem d_L_law_253 : decode code 253 = .ok (.aload_n 0, 1) := by decide +kernel
theorem d_L_law_254 : decode code 254 = .ok (.iload 4, 2) := by decide +kernel
theorem d_L_law_256 : decode code 256 = .ok (.iconst 1, 1) := by decide +kernel
theorem d_L_law_257 : decode code 257 = .ok (.iadd, 1) := by decide +kernel
theorem d_L_law_258 : decode code 258 = .ok (.iaload, 1) := by decide +kernel
theorem d_L_law_259 : decode code 259 = .ok (.aload_n 0, 1) := by decide +kernel
theorem d_L_law_260 : decode code 260 = .ok (.iload 4, 2) := by decide +kernel
theorem d_L_law_262 : decode code 262 = .ok (.iconst 2, 1) := by decide +kernel
theorem d_L_law_263 : decode code 263 = .ok (.iadd, 1) := by decide +kernel
theorem d_L_law_264 : decode code 264 = .ok (.iaload, 1) := by decide +kernel
theorem d_L_law_265 : decode code 265 = .ok (.aload_n 3, 1) := by decide +kernel
theorem d_L_law_266 : decode code 266 = .ok (.invokestatic 76, 3) := by decide +kernel
theorem d_L_law_269 : decode code 269 = .ok (.istore 5, 2) := by decide +kernel
theorem d_L_law_271 : decode code 271 = .ok (.aload_n 2, 1) := by decide +kernel
theorem d_L_law_272 : decode code 272 = .ok (.aload_n 0, 1) := by decide +kernel
theorem d_L_law_273 : decode code 273 = .ok (.iload 4, 2) := by decide +kernel
theorem d_L_law_275 : decode code 275 = .ok (.iconst 1, 1) := by decide +kernel
theorem d_L_law_276 : decode code 276 = .ok (.iadd, 1) := by decide +kernel
theorem d_L_law_277 : decode code 277 = .ok (.iaload, 1) := by decide +kernel
theorem d_L_law_278 : decode code 278 = .ok (.aload_n 0, 1) := by decide +kernel
theorem d_L_law_279 : decode code 279 = .ok (.iload 4, 2) := by decide +kernel
theorem d_L_law_281 : decode code 281 = .ok (.iconst 2, 1) := by decide +kernel
theorem d_L_law_282 : decode code 282 = .ok (.iadd, 1) := by decide +kernel
theorem d_L_law_283 : decode code 283 = .ok (.iaload, 1) := by decide +kernel
theorem d_L_law_284 : decode code 284 = .ok (.invokevirtual 78, 3) := by decide +kernel
theorem d_L_law_287 : decode code 287 = .ok (.istore 6, 2) := by decide +kernel
theorem d_L_law_289 : decode code 289 = .ok (.aload_n 2, 1) := by decide +kernel
theorem d_L_law_290 : decode code 290 = .ok (.invokevirtual 68, 3) := by decide +kernel
theorem d_L_law_293 : decode code 293 = .ok (.iload 5, 2) := by decide +kernel
theorem d_L_law_295 : decode code 295 = .ok (.if_icmp .eq 5, 3) := by decide +kernel
theorem d_L_law_298 : decode code 298 = .ok (.iconst 0, 1) := by decide +kernel
theorem d_L_law_299 : decode code 299 = .ok (.ireturn, 1) := by decide +kernel
theorem d_L_law_300 : decode code 300 = .ok (.iload 5, 2) := by decide +kernel
theorem d_L_law_302 : decode code 302 = .ok (.ifCond .ne 15, 3) := by decide +kernel
theorem d_L_law_305 : decode code 305 = .ok (.aload_n 3, 1) := by decide +kernel
theorem d_L_law_306 : decode code 306 = .ok (.iconst 0, 1) := by decide +kernel
theorem d_L_law_307 : decode code 307 = .ok (.laload, 1) := by decide +kernel
theorem d_L_law_308 : decode code 308 = .ok (.iload 6, 2) := by decide +kernel
theorem d_L_law_310 : decode code 310 = .ok (.i2l, 1) := by decide +kernel
theorem d_L_law_311 : decode code 311 = .ok (.lcmp, 1) := by decide +kernel
theorem d_L_law_312 : decode code 312 = .ok (.ifCond .eq 5, 3) := by decide +kernel
theorem d_L_law_315 : decode code 315 = .ok (.iconst 0, 1) := by decide +kernel
theorem d_L_law_316 : decode code 316 = .ok (.ireturn, 1) := by decide +kernel
theorem d_L_law_317 : decode code 317 = .ok (.goto 769, 3) := by decide +kernel
theorem d_L_law_320 : decode code 320 = .ok (.aload_n 1, 1) := by decide +kernel
theorem d_L_law_321 : decode code 321 = .ok (.aload_n 0, 1) := by decide +kernel
theorem d_L_law_322 : decode code 322 = .ok (.iload 4, 2) := by decide +kernel
theorem d_L_law_324 : decode code 324 = .ok (.iconst 1, 1) := by decide +kernel
theorem d_L_law_325 : decode code 325 = .ok (.iadd, 1) := by decide +kernel
theorem d_L_law_326 : decode code 326 = .ok (.iaload, 1) := by decide +kernel
theorem d_L_law_327 : decode code 327 = .ok (.aload_n 0, 1) := by decide +kernel
theorem d_L_law_328 : decode code 328 = .ok (.iload 4, 2) := by decide +kernel
theorem d_L_law_330 : decode code 330 = .ok (.iconst 2, 1) := by decide +kernel
theorem d_L_law_331 : decode code 331 = .ok (.iadd, 1) := by decide +kernel
theorem d_L_law_332 : decode code 332 = .ok (.iaload, 1) := by decide +kernel
theorem d_L_law_333 : decode code 333 = .ok (.aload_n 0, 1) := by decide +kernel
theorem d_L_law_334 : decode code 334 = .ok (.iload 4, 2) := by decide +kernel
theorem d_L_law_336 : decode code 336 = .ok (.iconst 3, 1) := by decide +kernel
theorem d_L_law_337 : decode code 337 = .ok (.iadd, 1) := by decide +kernel
theorem d_L_law_338 : decode code 338 = .ok (.iaload, 1) := by decide +kernel
theorem d_L_law_339 : decode code 339 = .ok (.aload_n 3, 1) := by decide +kernel
theorem d_L_law_340 : decode code 340 = .ok (.invokestatic 79, 3) := by decide +kernel
theorem d_L_law_343 : decode code 343 = .ok (.istore 5, 2) := by decide +kernel
theorem d_L_law_345 : decode code 345 = .ok (.aload_n 2, 1) := by decide +kernel
theorem d_L_law_346 : decode code 346 = .ok (.aload_n 0, 1) := by decide +kernel
theorem d_L_law_347 : decode code 347 = .ok (.iload 4, 2) := by decide +kernel
theorem d_L_law_349 : decode code 349 = .ok (.iconst 1, 1) := by decide +kernel
theorem d_L_law_350 : decode code 350 = .ok (.iadd, 1) := by decide +kernel
theorem d_L_law_351 : decode code 351 = .ok (.iaload, 1) := by decide +kernel
theorem d_L_law_352 : decode code 352 = .ok (.aload_n 0, 1) := by decide +kernel
theorem d_L_law_353 : decode code 353 = .ok (.iload 4, 2) := by decide +kernel
theorem d_L_law_355 : decode code 355 = .ok (.iconst 2, 1) := by decide +kernel
theorem d_L_law_356 : decode code 356 = .ok (.iadd, 1) := by decide +kernel
theorem d_L_law_357 : decode code 357 = .ok (.iaload, 1) := by decide +kernel
theorem d_L_law_358 : decode code 358 = .ok (.aload_n 0, 1) := by decide +kernel
theorem d_L_law_359 : decode code 359 = .ok (.iload 4, 2) := by decide +kernel
theorem d_L_law_361 : decode code 361 = .ok (.iconst 3, 1) := by decide +kernel
theorem d_L_law_362 : decode code 362 = .ok (.iadd, 1) := by decide +kernel
theorem d_L_law_363 : decode code 363 = .ok (.iaload, 1) := by decide +kernel
theorem d_L_law_364 : decode code 364 = .ok (.invokevirtual 82, 3) := by decide +kernel
theorem d_L_law_367 : decode code 367 = .ok (.istore 6, 2) := by decide +kernel
theorem d_L_law_369 : decode code 369 = .ok (.aload_n 2, 1) := by decide +kernel
theorem d_L_law_370 : decode code 370 = .ok (.invokevirtual 68, 3) := by decide +kernel
theorem d_L_law_373 : decode code 373 = .ok (.iload 5, 2) := by decide +kernel
theorem d_L_law_375 : decode code 375 = .ok (.if_icmp .eq 5, 3) := by decide +kernel
theorem d_L_law_378 : decode code 378 = .ok (.iconst 0, 1) := by decide +kernel
theorem d_L_law_379 : decode code 379 = .ok (.ireturn, 1) := by decide +kernel
theorem d_L_law_380 : decode code 380 = .ok (.iload 5, 2) := by decide +kernel
theorem d_L_law_382 : decode code 382 = .ok (.ifCond .ne 15, 3) := by decide +kernel
theorem d_L_law_385 : decode code 385 = .ok (.aload_n 3, 1) := by decide +kernel
theorem d_L_law_386 : decode code 386 = .ok (.iconst 0, 1) := by decide +kernel
theorem d_L_law_387 : decode code 387 = .ok (.laload, 1) := by decide +kernel
theorem d_L_law_388 : decode code 388 = .ok (.iload 6, 2) := by decide +kernel
theorem d_L_law_390 : decode code 390 = .ok (.i2l, 1) := by decide +kernel
theorem d_L_law_391 : decode code 391 = .ok (.lcmp, 1) := by decide +kernel
theorem d_L_law_392 : decode code 392 = .ok (.ifCond .eq 5, 3) := by decide +kernel
theorem d_L_law_395 : decode code 395 = .ok (.iconst 0, 1) := by decide +kernel
theorem d_L_law_396 : decode code 396 = .ok (.ireturn, 1) := by decide +kernel
theorem d_L_law_397 : decode code 397 = .ok (.goto 689, 3) := by decide +kernel
theorem d_L_law_400 : decode code 400 = .ok (.aload_n 1, 1) := by decide +kernel
theorem d_L_law_401 : decode code 401 = .ok (.aload_n 0, 1) := by decide +kernel
theorem d_L_law_402 : decode code 402 = .ok (.iload 4, 2) := by decide +kernel
theorem d_L_law_404 : decode code 404 = .ok (.iconst 1, 1) := by decide +kernel
theorem d_L_law_405 : decode code 405 = .ok (.iadd, 1) := by decide +kernel
theorem d_L_law_406 : decode code 406 = .ok (.iaload, 1) := by decide +kernel
theorem d_L_law_407 : decode code 407 = .ok (.aload_n 0, 1) := by decide +kernel
theorem d_L_law_408 : decode code 408 = .ok (.iload 4, 2) := by decide +kernel
theorem d_L_law_410 : decode code 410 = .ok (.iconst 2, 1) := by decide +kernel
theorem d_L_law_411 : decode code 411 = .ok (.iadd, 1) := by decide +kernel
theorem d_L_law_412 : decode code 412 = .ok (.iaload, 1) := by decide +kernel
theorem d_L_law_413 : decode code 413 = .ok (.aload_n 3, 1) := by decide +kernel
theorem d_L_law_414 : decode code 414 = .ok (.invokestatic 83, 3) := by decide +kernel
theorem d_L_law_417 : decode code 417 = .ok (.istore 5, 2) := by decide +kernel
theorem d_L_law_419 : decode code 419 = .ok (.aload_n 2, 1) := by decide +kernel
theorem d_L_law_420 : decode code 420 = .ok (.aload_n 0, 1) := by decide +kernel
theorem d_L_law_421 : decode code 421 = .ok (.iload 4, 2) := by decide +kernel
theorem d_L_law_423 : decode code 423 = .ok (.iconst 1, 1) := by decide +kernel
theorem d_L_law_424 : decode code 424 = .ok (.iadd, 1) := by decide +kernel
theorem d_L_law_425 : decode code 425 = .ok (.iaload, 1) := by decide +kernel
theorem d_L_law_426 : decode code 426 = .ok (.aload_n 0, 1) := by decide +kernel
theorem d_L_law_427 : decode code 427 = .ok (.iload 4, 2) := by decide +kernel
theorem d_L_law_429 : decode code 429 = .ok (.iconst 2, 1) := by decide +kernel
theorem d_L_law_430 : decode code 430 = .ok (.iadd, 1) := by decide +kernel
theorem d_L_law_431 : decode code 431 = .ok (.iaload, 1) := by decide +kernel
theorem d_L_law_432 : decode code 432 = .ok (.invokevirtual 85, 3) := by decide +kernel
theorem d_L_law_435 : decode code 435 = .ok (.istore 6, 2) := by decide +kernel
theorem d_L_law_437 : decode code 437 = .ok (.aload_n 2, 1) := by decide +kernel
theorem d_L_law_438 : decode code 438 = .ok (.invokevirtual 68, 3) := by decide +kernel
theorem d_L_law_441 : decode code 441 = .ok (.iload 5, 2) := by decide +kernel
theorem d_L_law_443 : decode code 443 = .ok (.if_icmp .eq 5, 3) := by decide +kernel
theorem d_L_law_446 : decode code 446 = .ok (.iconst 0, 1) := by decide +kernel
theorem d_L_law_447 : decode code 447 = .ok (.ireturn, 1) := by decide +kernel
theorem d_L_law_448 : decode code 448 = .ok (.iload 5, 2) := by decide +kernel
theorem d_L_law_450 : decode code 450 = .ok (.ifCond .ne 15, 3) := by decide +kernel
theorem d_L_law_453 : decode code 453 = .ok (.aload_n 3, 1) := by decide +kernel
theorem d_L_law_454 : decode code 454 = .ok (.iconst 0, 1) := by decide +kernel
theorem d_L_law_455 : decode code 455 = .ok (.laload, 1) := by decide +kernel
theorem d_L_law_456 : decode code 456 = .ok (.iload 6, 2) := by decide +kernel
theorem d_L_law_458 : decode code 458 = .ok (.i2l, 1) := by decide +kernel
theorem d_L_law_459 : decode code 459 = .ok (.lcmp, 1) := by decide +kernel
theorem d_L_law_460 : decode code 460 = .ok (.ifCond .eq 5, 3) := by decide +kernel
theorem d_L_law_463 : decode code 463 = .ok (.iconst 0, 1) := by decide +kernel
theorem d_L_law_464 : decode code 464 = .ok (.ireturn, 1) := by decide +kernel
theorem d_L_law_465 : decode code 465 = .ok (.goto 621, 3) := by decide +kernel
theorem d_L_law_468 : decode code 468 = .ok (.aload_n 1, 1) := by decide +kernel
theorem d_L_law_469 : decode code 469 = .ok (.aload_n 0, 1) := by decide +kernel
theorem d_L_law_470 : decode code 470 = .ok (.iload 4, 2) := by decide +kernel
theorem d_L_law_472 : decode code 472 = .ok (.iconst 1, 1) := by decide +kernel
theorem d_L_law_473 : decode code 473 = .ok (.iadd, 1) := by decide +kernel
theorem d_L_law_474 : decode code 474 = .ok (.iaload, 1) := by decide +kernel
theorem d_L_law_475 : decode code 475 = .ok (.aload_n 0, 1) := by decide +kernel
theorem d_L_law_476 : decode code 476 = .ok (.iload 4, 2) := by decide +kernel
theorem d_L_law_478 : decode code 478 = .ok (.iconst 2, 1) := by decide +kernel
theorem d_L_law_479 : decode code 479 = .ok (.iadd, 1) := by decide +kernel
theorem d_L_law_480 : decode code 480 = .ok (.iaload, 1) := by decide +kernel
theorem d_L_law_481 : decode code 481 = .ok (.aload_n 3, 1) := by decide +kernel
theorem d_L_law_482 : decode code 482 = .ok (.invokestatic 86, 3) := by decide +kernel
theorem d_L_law_485 : decode code 485 = .ok (.istore 5, 2) := by decide +kernel
theorem d_L_law_487 : decode code 487 = .ok (.aload_n 2, 1) := by decide +kernel
theorem d_L_law_488 : decode code 488 = .ok (.aload_n 0, 1) := by decide +kernel
theorem d_L_law_489 : decode code 489 = .ok (.iload 4, 2) := by decide +kernel
theorem d_L_law_491 : decode code 491 = .ok (.iconst 1, 1) := by decide +kernel
theorem d_L_law_492 : decode code 492 = .ok (.iadd, 1) := by decide +kernel
theorem d_L_law_493 : decode code 493 = .ok (.iaload, 1) := by decide +kernel
theorem d_L_law_494 : decode code 494 = .ok (.aload_n 0, 1) := by decide +kernel
theorem d_L_law_495 : decode code 495 = .ok (.iload 4, 2) := by decide +kernel
theorem d_L_law_497 : decode code 497 = .ok (.iconst 2, 1) := by decide +kernel
theorem d_L_law_498 : decode code 498 = .ok (.iadd, 1) := by decide +kernel
theorem d_L_law_499 : decode code 499 = .ok (.iaload, 1) := by decide +kernel
theorem d_L_law_500 : decode code 500 = .ok (.invokevirtual 88, 3) := by decide +kernel
theorem d_L_law_503 : decode code 503 = .ok (.istore 6, 2) := by decide +kernel
theorem d_L_law_505 : decode code 505 = .ok (.aload_n 2, 1) := by decide +kernel
theorem d_L_law_506 : decode code 506 = .ok (.invokevirtual 68, 3) := by decide +kernel
theorem d_L_law_509 : decode code 509 = .ok (.iload 5, 2) := by decide +kernel
theorem d_L_law_511 : decode code 511 = .ok (.if_icmp .eq 5, 3) := by decide +kernel
theorem d_L_law_514 : decode code 514 = .ok (.iconst 0, 1) := by decide +kernel
theorem d_L_law_515 : decode code 515 = .ok (.ireturn, 1) := by decide +kernel
theorem d_L_law_516 : decode code 516 = .ok (.iload 5, 2) := by decide +kernel
theorem d_L_law_518 : decode code 518 = .ok (.ifCond .ne 15, 3) := by decide +kernel
theorem d_L_law_521 : decode code 521 = .ok (.aload_n 3, 1) := by decide +kernel
theorem d_L_law_522 : decode code 522 = .ok (.iconst 0, 1) := by decide +kernel
theorem d_L_law_523 : decode code 523 = .ok (.laload, 1) := by decide +kernel
theorem d_L_law_524 : decode code 524 = .ok (.iload 6, 2) := by decide +kernel
theorem d_L_law_526 : decode code 526 = .ok (.i2l, 1) := by decide +kernel
theorem d_L_law_527 : decode code 527 = .ok (.lcmp, 1) := by decide +kernel
theorem d_L_law_528 : decode code 528 = .ok (.ifCond .eq 5, 3) := by decide +kernel
theorem d_L_law_531 : decode code 531 = .ok (.iconst 0, 1) := by decide +kernel
theorem d_L_law_532 : decode code 532 = .ok (.ireturn, 1) := by decide +kernel
theorem d_L_law_533 : decode code 533 = .ok (.goto 553, 3) := by decide +kernel
theorem d_L_law_536 : decode code 536 = .ok (.aload_n 1, 1) := by decide +kernel
theorem d_L_law_537 : decode code 537 = .ok (.aload_n 0, 1) := by decide +kernel
theorem d_L_law_538 : decode code 538 = .ok (.iload 4, 2) := by decide +kernel
theorem d_L_law_540 : decode code 540 = .ok (.iconst 1, 1) := by decide +kernel
theorem d_L_law_541 : decode code 541 = .ok (.iadd, 1) := by decide +kernel
theorem d_L_law_542 : decode code 542 = .ok (.iaload, 1) := by decide +kernel
theorem d_L_law_543 : decode code 543 = .ok (.aload_n 0, 1) := by decide +kernel
theorem d_L_law_544 : decode code 544 = .ok (.iload 4, 2) := by decide +kernel
theorem d_L_law_546 : decode code 546 = .ok (.iconst 2, 1) := by decide +kernel
theorem d_L_law_547 : decode code 547 = .ok (.iadd, 1) := by decide +kernel
theorem d_L_law_548 : decode code 548 = .ok (.iaload, 1) := by decide +kernel
theorem d_L_law_549 : decode code 549 = .ok (.aload_n 3, 1) := by decide +kernel
theorem d_L_law_550 : decode code 550 = .ok (.invokestatic 89, 3) := by decide +kernel
theorem d_L_law_553 : decode code 553 = .ok (.istore 5, 2) := by decide +kernel
theorem d_L_law_555 : decode code 555 = .ok (.aload_n 2, 1) := by decide +kernel
theorem d_L_law_556 : decode code 556 = .ok (.aload_n 0, 1) := by decide +kernel
theorem d_L_law_557 : decode code 557 = .ok (.iload 4, 2) := by decide +kernel
theorem d_L_law_559 : decode code 559 = .ok (.iconst 1, 1) := by decide +kernel
theorem d_L_law_560 : decode code 560 = .ok (.iadd, 1) := by decide +kernel
theorem d_L_law_561 : decode code 561 = .ok (.iaload, 1) := by decide +kernel
theorem d_L_law_562 : decode code 562 = .ok (.aload_n 0, 1) := by decide +kernel
theorem d_L_law_563 : decode code 563 = .ok (.iload 4, 2) := by decide +kernel
theorem d_L_law_565 : decode code 565 = .ok (.iconst 2, 1) := by decide +kernel
theorem d_L_law_566 : decode code 566 = .ok (.iadd, 1) := by decide +kernel
theorem d_L_law_567 : decode code 567 = .ok (.iaload, 1) := by decide +kernel
theorem d_L_law_568 : decode code 568 = .ok (.invokevirtual 91, 3) := by decide +kernel
theorem d_L_law_571 : decode code 571 = .ok (.istore 6, 2) := by decide +kernel
theorem d_L_law_573 : decode code 573 = .ok (.aload_n 2, 1) := by decide +kernel
theorem d_L_law_574 : decode code 574 = .ok (.invokevirtual 68, 3) := by decide +kernel
theorem d_L_law_577 : decode code 577 = .ok (.iload 5, 2) := by decide +kernel
theorem d_L_law_579 : decode code 579 = .ok (.if_icmp .eq 5, 3) := by decide +kernel
theorem d_L_law_582 : decode code 582 = .ok (.iconst 0, 1) := by decide +kernel
theorem d_L_law_583 : decode code 583 = .ok (.ireturn, 1) := by decide +kernel
theorem d_L_law_584 : decode code 584 = .ok (.iload 5, 2) := by decide +kernel
theorem d_L_law_586 : decode code 586 = .ok (.ifCond .ne 15, 3) := by decide +kernel
theorem d_L_law_589 : decode code 589 = .ok (.aload_n 3, 1) := by decide +kernel
theorem d_L_law_590 : decode code 590 = .ok (.iconst 0, 1) := by decide +kernel
theorem d_L_law_591 : decode code 591 = .ok (.laload, 1) := by decide +kernel
theorem d_L_law_592 : decode code 592 = .ok (.iload 6, 2) := by decide +kernel
theorem d_L_law_594 : decode code 594 = .ok (.i2l, 1) := by decide +kernel
theorem d_L_law_595 : decode code 595 = .ok (.lcmp, 1) := by decide +kernel
theorem d_L_law_596 : decode code 596 = .ok (.ifCond .eq 5, 3) := by decide +kernel
theorem d_L_law_599 : decode code 599 = .ok (.iconst 0, 1) := by decide +kernel
theorem d_L_law_600 : decode code 600 = .ok (.ireturn, 1) := by decide +kernel
theorem d_L_law_601 : decode code 601 = .ok (.goto 485, 3) := by decide +kernel
theorem d_L_law_604 : decode code 604 = .ok (.aload_n 1, 1) := by decide +kernel
theorem d_L_law_605 : decode code 605 = .ok (.aload_n 0, 1) := by decide +kernel
theorem d_L_law_606 : decode code 606 = .ok (.iload 4, 2) := by decide +kernel
theorem d_L_law_608 : decode code 608 = .ok (.iconst 1, 1) := by decide +kernel
theorem d_L_law_609 : decode code 609 = .ok (.iadd, 1) := by decide +kernel
theorem d_L_law_610 : decode code 610 = .ok (.iaload, 1) := by decide +kernel
theorem d_L_law_611 : decode code 611 = .ok (.aload_n 3, 1) := by decide +kernel
theorem d_L_law_612 : decode code 612 = .ok (.invokestatic 92, 3) := by decide +kernel
theorem d_L_law_615 : decode code 615 = .ok (.istore 5, 2) := by decide +kernel
theorem d_L_law_617 : decode code 617 = .ok (.aload_n 2, 1) := by decide +kernel
theorem d_L_law_618 : decode code 618 = .ok (.aload_n 0, 1) := by decide +kernel
theorem d_L_law_619 : decode code 619 = .ok (.iload 4, 2) := by decide +kernel
theorem d_L_law_621 : decode code 621 = .ok (.iconst 1, 1) := by decide +kernel
theorem d_L_law_622 : decode code 622 = .ok (.iadd, 1) := by decide +kernel
theorem d_L_law_623 : decode code 623 = .ok (.iaload, 1) := by decide +kernel
theorem d_L_law_624 : decode code 624 = .ok (.invokevirtual 94, 3) := by decide +kernel
theorem d_L_law_627 : decode code 627 = .ok (.istore 6, 2) := by decide +kernel
theorem d_L_law_629 : decode code 629 = .ok (.aload_n 2, 1) := by decide +kernel
theorem d_L_law_630 : decode code 630 = .ok (.invokevirtual 68, 3) := by decide +kernel
theorem d_L_law_633 : decode code 633 = .ok (.iload 5, 2) := by decide +kernel
theorem d_L_law_635 : decode code 635 = .ok (.if_icmp .eq 5, 3) := by decide +kernel
theorem d_L_law_638 : decode code 638 = .ok (.iconst 0, 1) := by decide +kernel
theorem d_L_law_639 : decode code 639 = .ok (.ireturn, 1) := by decide +kernel
theorem d_L_law_640 : decode code 640 = .ok (.iload 5, 2) := by decide +kernel
theorem d_L_law_642 : decode code 642 = .ok (.ifCond .ne 15, 3) := by decide +kernel
theorem d_L_law_645 : decode code 645 = .ok (.aload_n 3, 1) := by decide +kernel
theorem d_L_law_646 : decode code 646 = .ok (.iconst 0, 1) := by decide +kernel
theorem d_L_law_647 : decode code 647 = .ok (.laload, 1) := by decide +kernel
theorem d_L_law_648 : decode code 648 = .ok (.iload 6, 2) := by decide +kernel
theorem d_L_law_650 : decode code 650 = .ok (.i2l, 1) := by decide +kernel
theorem d_L_law_651 : decode code 651 = .ok (.lcmp, 1) := by decide +kernel
theorem d_L_law_652 : decode code 652 = .ok (.ifCond .eq 5, 3) := by decide +kernel
theorem d_L_law_655 : decode code 655 = .ok (.iconst 0, 1) := by decide +kernel
theorem d_L_law_656 : decode code 656 = .ok (.ireturn, 1) := by decide +kernel
theorem d_L_law_657 : decode code 657 = .ok (.goto 429, 3) := by decide +kernel
theorem d_L_law_660 : decode code 660 = .ok (.aload_n 1, 1) := by decide +kernel
theorem d_L_law_661 : decode code 661 = .ok (.invokevirtual 95, 3) := by decide +kernel
theorem d_L_law_664 : decode code 664 = .ok (.aload_n 2, 1) := by decide +kernel
theorem d_L_law_665 : decode code 665 = .ok (.invokevirtual 98, 3) := by decide +kernel
theorem d_L_law_668 : decode code 668 = .ok (.if_icmp .eq 418, 3) := by decide +kernel
theorem d_L_law_671 : decode code 671 = .ok (.iconst 0, 1) := by decide +kernel
theorem d_L_law_672 : decode code 672 = .ok (.ireturn, 1) := by decide +kernel
theorem d_L_law_673 : decode code 673 = .ok (.aload_n 1, 1) := by decide +kernel
theorem d_L_law_674 : decode code 674 = .ok (.invokevirtual 99, 3) := by decide +kernel
theorem d_L_law_677 : decode code 677 = .ok (.aload_n 2, 1) := by decide +kernel
theorem d_L_law_678 : decode code 678 = .ok (.invokevirtual 102, 3) := by decide +kernel
theorem d_L_law_681 : decode code 681 = .ok (.if_icmp .eq 405, 3) := by decide +kernel
theorem d_L_law_684 : decode code 684 = .ok (.iconst 0, 1) := by decide +kernel
theorem d_L_law_685 : decode code 685 = .ok (.ireturn, 1) := by decide +kernel
theorem d_L_law_686 : decode code 686 = .ok (.aload_n 1, 1) := by decide +kernel
theorem d_L_law_687 : decode code 687 = .ok (.invokevirtual 103, 3) := by decide +kernel
theorem d_L_law_690 : decode code 690 = .ok (.aload_n 2, 1) := by decide +kernel
theorem d_L_law_691 : decode code 691 = .ok (.invokevirtual 106, 3) := by decide +kernel
theorem d_L_law_694 : decode code 694 = .ok (.if_icmp .eq 392, 3) := by decide +kernel
theorem d_L_law_697 : decode code 697 = .ok (.iconst 0, 1) := by decide +kernel
theorem d_L_law_698 : decode code 698 = .ok (.ireturn, 1) := by decide +kernel
theorem d_L_law_699 : decode code 699 = .ok (.aload_n 1, 1) := by decide +kernel
theorem d_L_law_700 : decode code 700 = .ok (.aload_n 0, 1) := by decide +kernel
theorem d_L_law_701 : decode code 701 = .ok (.iload 4, 2) := by decide +kernel
theorem d_L_law_703 : decode code 703 = .ok (.iconst 1, 1) := by decide +kernel
theorem d_L_law_704 : decode code 704 = .ok (.iadd, 1) := by decide +kernel
theorem d_L_law_705 : decode code 705 = .ok (.iaload, 1) := by decide +kernel
theorem d_L_law_706 : decode code 706 = .ok (.aload_n 3, 1) := by decide +kernel
theorem d_L_law_707 : decode code 707 = .ok (.invokestatic 107, 3) := by decide +kernel
theorem d_L_law_710 : decode code 710 = .ok (.istore 5, 2) := by decide +kernel
theorem d_L_law_712 : decode code 712 = .ok (.aload_n 2, 1) := by decide +kernel
theorem d_L_law_713 : decode code 713 = .ok (.aload_n 0, 1) := by decide +kernel
theorem d_L_law_714 : decode code 714 = .ok (.iload 4, 2) := by decide +kernel
theorem d_L_law_716 : decode code 716 = .ok (.iconst 1, 1) := by decide +kernel
theorem d_L_law_717 : decode code 717 = .ok (.iadd, 1) := by decide +kernel
theorem d_L_law_718 : decode code 718 = .ok (.iaload, 1) := by decide +kernel
theorem d_L_law_719 : decode code 719 = .ok (.invokevirtual 109, 3) := by decide +kernel
theorem d_L_law_722 : decode code 722 = .ok (.istore 6, 2) := by decide +kernel
theorem d_L_law_724 : decode code 724 = .ok (.aload_n 2, 1) := by decide +kernel
theorem d_L_law_725 : decode code 725 = .ok (.invokevirtual 68, 3) := by decide +kernel
theorem d_L_law_728 : decode code 728 = .ok (.iload 5, 2) := by decide +kernel
theorem d_L_law_730 : decode code 730 = .ok (.if_icmp .eq 5, 3) := by decide +kernel
theorem d_L_law_733 : decode code 733 = .ok (.iconst 0, 1) := by decide +kernel
theorem d_L_law_734 : decode code 734 = .ok (.ireturn, 1) := by decide +kernel
theorem d_L_law_735 : decode code 735 = .ok (.iload 5, 2) := by decide +kernel
theorem d_L_law_737 : decode code 737 = .ok (.ifCond .ne 15, 3) := by decide +kernel
theorem d_L_law_740 : decode code 740 = .ok (.aload_n 3, 1) := by decide +kernel
theorem d_L_law_741 : decode code 741 = .ok (.iconst 0, 1) := by decide +kernel
theorem d_L_law_742 : decode code 742 = .ok (.laload, 1) := by decide +kernel
theorem d_L_law_743 : decode code 743 = .ok (.iload 6, 2) := by decide +kernel
theorem d_L_law_745 : decode code 745 = .ok (.i2l, 1) := by decide +kernel
theorem d_L_law_746 : decode code 746 = .ok (.lcmp, 1) := by decide +kernel
theorem d_L_law_747 : decode code 747 = .ok (.ifCond .eq 5, 3) := by decide +kernel
theorem d_L_law_750 : decode code 750 = .ok (.iconst 0, 1) := by decide +kernel
theorem d_L_law_751 : decode code 751 = .ok (.ireturn, 1) := by decide +kernel
theorem d_L_law_752 : decode code 752 = .ok (.goto 334, 3) := by decide +kernel
theorem d_L_law_755 : decode code 755 = .ok (.aload_n 1, 1) := by decide +kernel
theorem d_L_law_756 : decode code 756 = .ok (.aload_n 0, 1) := by decide +kernel
theorem d_L_law_757 : decode code 757 = .ok (.iload 4, 2) := by decide +kernel
theorem d_L_law_759 : decode code 759 = .ok (.iconst 1, 1) := by decide +kernel
theorem d_L_law_760 : decode code 760 = .ok (.iadd, 1) := by decide +kernel
theorem d_L_law_761 : decode code 761 = .ok (.iaload, 1) := by decide +kernel
theorem d_L_law_762 : decode code 762 = .ok (.aload_n 0, 1) := by decide +kernel
theorem d_L_law_763 : decode code 763 = .ok (.iload 4, 2) := by decide +kernel
theorem d_L_law_765 : decode code 765 = .ok (.iconst 2, 1) := by decide +kernel
theorem d_L_law_766 : decode code 766 = .ok (.iadd, 1) := by decide +kernel
theorem d_L_law_767 : decode code 767 = .ok (.iaload, 1) := by decide +kernel
theorem d_L_law_768 : decode code 768 = .ok (.ifCond .eq 7, 3) := by decide +kernel
theorem d_L_law_771 : decode code 771 = .ok (.iconst 1, 1) := by decide +kernel
theorem d_L_law_772 : decode code 772 = .ok (.goto 4, 3) := by decide +kernel
theorem d_L_law_775 : decode code 775 = .ok (.iconst 0, 1) := by decide +kernel
theorem d_L_law_776 : decode code 776 = .ok (.aload_n 3, 1) := by decide +kernel
theorem d_L_law_777 : decode code 777 = .ok (.invokestatic 110, 3) := by decide +kernel
theorem d_L_law_780 : decode code 780 = .ok (.istore 5, 2) := by decide +kernel
theorem d_L_law_782 : decode code 782 = .ok (.aload_n 2, 1) := by decide +kernel
theorem d_L_law_783 : decode code 783 = .ok (.aload_n 0, 1) := by decide +kernel
theorem d_L_law_784 : decode code 784 = .ok (.iload 4, 2) := by decide +kernel
theorem d_L_law_786 : decode code 786 = .ok (.iconst 1, 1) := by decide +kernel
theorem d_L_law_787 : decode code 787 = .ok (.iadd, 1) := by decide +kernel
theorem d_L_law_788 : decode code 788 = .ok (.iaload, 1) := by decide +kernel
theorem d_L_law_789 : decode code 789 = .ok (.aload_n 0, 1) := by decide +kernel
theorem d_L_law_790 : decode code 790 = .ok (.iload 4, 2) := by decide +kernel
theorem d_L_law_792 : decode code 792 = .ok (.iconst 2, 1) := by decide +kernel
theorem d_L_law_793 : decode code 793 = .ok (.iadd, 1) := by decide +kernel
theorem d_L_law_794 : decode code 794 = .ok (.iaload, 1) := by decide +kernel
theorem d_L_law_795 : decode code 795 = .ok (.ifCond .eq 7, 3) := by decide +kernel
theorem d_L_law_798 : decode code 798 = .ok (.iconst 1, 1) := by decide +kernel
theorem d_L_law_799 : decode code 799 = .ok (.goto 4, 3) := by decide +kernel
theorem d_L_law_802 : decode code 802 = .ok (.iconst 0, 1) := by decide +kernel
theorem d_L_law_803 : decode code 803 = .ok (.invokevirtual 113, 3) := by decide +kernel
theorem d_L_law_806 : decode code 806 = .ok (.istore 6, 2) := by decide +kernel
theorem d_L_law_808 : decode code 808 = .ok (.aload_n 2, 1) := by decide +kernel
theorem d_L_law_809 : decode code 809 = .ok (.invokevirtual 68, 3) := by decide +kernel
theorem d_L_law_812 : decode code 812 = .ok (.iload 5, 2) := by decide +kernel
theorem d_L_law_814 : decode code 814 = .ok (.if_icmp .eq 5, 3) := by decide +kernel
theorem d_L_law_817 : decode code 817 = .ok (.iconst 0, 1) := by decide +kernel
theorem d_L_law_818 : decode code 818 = .ok (.ireturn, 1) := by decide +kernel
theorem d_L_law_819 : decode code 819 = .ok (.iload 5, 2) := by decide +kernel
theorem d_L_law_821 : decode code 821 = .ok (.ifCond .ne 15, 3) := by decide +kernel
theorem d_L_law_824 : decode code 824 = .ok (.aload_n 3, 1) := by decide +kernel
theorem d_L_law_825 : decode code 825 = .ok (.iconst 0, 1) := by decide +kernel
theorem d_L_law_826 : decode code 826 = .ok (.laload, 1) := by decide +kernel
theorem d_L_law_827 : decode code 827 = .ok (.iload 6, 2) := by decide +kernel
theorem d_L_law_829 : decode code 829 = .ok (.i2l, 1) := by decide +kernel
theorem d_L_law_830 : decode code 830 = .ok (.lcmp, 1) := by decide +kernel
theorem d_L_law_831 : decode code 831 = .ok (.ifCond .eq 5, 3) := by decide +kernel
theorem d_L_law_834 : decode code 834 = .ok (.iconst 0, 1) := by decide +kernel
theorem d_L_law_835 : decode code 835 = .ok (.ireturn, 1) := by decide +kernel
theorem d_L_law_836 : decode code 836 = .ok (.goto 250, 3) := by decide +kernel
theorem d_L_law_839 : decode code 839 = .ok (.aload_n 1, 1) := by decide +kernel
theorem d_L_law_840 : decode code 840 = .ok (.aload_n 0, 1) := by decide +kernel
theorem d_L_law_841 : decode code 841 = .ok (.iload 4, 2) := by decide +kernel
theorem d_L_law_843 : decode code 843 = .ok (.iconst 1, 1) := by decide +kernel
theorem d_L_law_844 : decode code 844 = .ok (.iadd, 1) := by decide +kernel
theorem d_L_law_845 : decode code 845 = .ok (.iaload, 1) := by decide +kernel
theorem d_L_law_846 : decode code 846 = .ok (.aload_n 0, 1) := by decide +kernel
theorem d_L_law_847 : decode code 847 = .ok (.iload 4, 2) := by decide +kernel
theorem d_L_law_849 : decode code 849 = .ok (.iconst 2, 1) := by decide +kernel
theorem d_L_law_850 : decode code 850 = .ok (.iadd, 1) := by decide +kernel
theorem d_L_law_851 : decode code 851 = .ok (.iaload, 1) := by decide +kernel
theorem d_L_law_852 : decode code 852 = .ok (.aload_n 3, 1) := by decide +kernel
theorem d_L_law_853 : decode code 853 = .ok (.invokestatic 114, 3) := by decide +kernel
theorem d_L_law_856 : decode code 856 = .ok (.istore 5, 2) := by decide +kernel
theorem d_L_law_858 : decode code 858 = .ok (.aload_n 2, 1) := by decide +kernel
theorem d_L_law_859 : decode code 859 = .ok (.aload_n 0, 1) := by decide +kernel
theorem d_L_law_860 : decode code 860 = .ok (.iload 4, 2) := by decide +kernel
theorem d_L_law_862 : decode code 862 = .ok (.iconst 1, 1) := by decide +kernel
theorem d_L_law_863 : decode code 863 = .ok (.iadd, 1) := by decide +kernel
theorem d_L_law_864 : decode code 864 = .ok (.iaload, 1) := by decide +kernel
theorem d_L_law_865 : decode code 865 = .ok (.aload_n 0, 1) := by decide +kernel
theorem d_L_law_866 : decode code 866 = .ok (.iload 4, 2) := by decide +kernel
theorem d_L_law_868 : decode code 868 = .ok (.iconst 2, 1) := by decide +kernel
theorem d_L_law_869 : decode code 869 = .ok (.iadd, 1) := by decide +kernel
theorem d_L_law_870 : decode code 870 = .ok (.iaload, 1) := by decide +kernel
theorem d_L_law_871 : decode code 871 = .ok (.invokevirtual 116, 3) := by decide +kernel
end
section
/-! what stands where: L -/
theorem d_L_law_874 : decode code 874 = .ok (.istore 6, 2) := by decide +kernel
theorem d_L_law_876 : decode code 876 = .ok (.aload_n 2, 1) := by decide +kernel
theorem d_L_law_877 : decode code 877 = .ok (.invokevirtual 68, 3) := by decide +kernel
theorem d_L_law_880 : decode code 880 = .ok (.iload 5, 2) := by decide +kernel
theorem d_L_law_882 : decode code 882 = .ok (.if_icmp .eq 5, 3) := by decide +kernel
theorem d_L_law_885 : decode code 885 = .ok (.iconst 0, 1) := by decide +kernel
theorem d_L_law_886 : decode code 886 = .ok (.ireturn, 1) := by decide +kernel
theorem d_L_law_887 : decode code 887 = .ok (.iload 5, 2) := by decide +kernel
theorem d_L_law_889 : decode code 889 = .ok (.ifCond .ne 15, 3) := by decide +kernel
theorem d_L_law_892 : decode code 892 = .ok (.aload_n 3, 1) := by decide +kernel
theorem d_L_law_893 : decode code 893 = .ok (.iconst 0, 1) := by decide +kernel
theorem d_L_law_894 : decode code 894 = .ok (.laload, 1) := by decide +kernel
theorem d_L_law_895 : decode code 895 = .ok (.iload 6, 2) := by decide +kernel
theorem d_L_law_897 : decode code 897 = .ok (.i2l, 1) := by decide +kernel
theorem d_L_law_898 : decode code 898 = .ok (.lcmp, 1) := by decide +kernel
theorem d_L_law_899 : decode code 899 = .ok (.ifCond .eq 5, 3) := by decide +kernel
theorem d_L_law_902 : decode code 902 = .ok (.iconst 0, 1) := by decide +kernel
theorem d_L_law_903 : decode code 903 = .ok (.ireturn, 1) := by decide +kernel
theorem d_L_law_904 : decode code 904 = .ok (.goto 182, 3) := by decide +kernel
theorem d_L_law_907 : decode code 907 = .ok (.aload_n 1, 1) := by decide +kernel
theorem d_L_law_908 : decode code 908 = .ok (.aload_n 0, 1) := by decide +kernel
theorem d_L_law_909 : decode code 909 = .ok (.iload 4, 2) := by decide +kernel
theorem d_L_law_911 : decode code 911 = .ok (.iconst 1, 1) := by decide +kernel
theorem d_L_law_912 : decode code 912 = .ok (.iadd, 1) := by decide +kernel
theorem d_L_law_913 : decode code 913 = .ok (.iaload, 1) := by decide +kernel
theorem d_L_law_914 : decode code 914 = .ok (.aload_n 3, 1) := by decide +kernel
theorem d_L_law_915 : decode code 915 = .ok (.invokestatic 117, 3) := by decide +kernel
theorem d_L_law_918 : decode code 918 = .ok (.istore 5, 2) := by decide +kernel
theorem d_L_law_920 : decode code 920 = .ok (.aload_n 2, 1) := by decide +kernel
theorem d_L_law_921 : decode code 921 = .ok (.aload_n 0, 1) := by decide +kernel
theorem d_L_law_922 : decode code 922 = .ok (.iload 4, 2) := by decide +kernel
theorem d_L_law_924 : decode code 924 = .ok (.iconst 1, 1) := by decide +kernel
theorem d_L_law_925 : decode code 925 = .ok (.iadd, 1) := by decide +kernel
theorem d_L_law_926 : decode code 926 = .ok (.iaload, 1) := by decide +kernel
theorem d_L_law_927 : decode code 927 = .ok (.invokevirtual 119, 3) := by decide +kernel
theorem d_L_law_930 : decode code 930 = .ok (.istore 6, 2) := by decide +kernel
theorem d_L_law_932 : decode code 932 = .ok (.aload_n 2, 1) := by decide +kernel
theorem d_L_law_933 : decode code 933 = .ok (.invokevirtual 68, 3) := by decide +kernel
theorem d_L_law_936 : decode code 936 = .ok (.iload 5, 2) := by decide +kernel
theorem d_L_law_938 : decode code 938 = .ok (.if_icmp .eq 5, 3) := by decide +kernel
theorem d_L_law_941 : decode code 941 = .ok (.iconst 0, 1) := by decide +kernel
theorem d_L_law_942 : decode code 942 = .ok (.ireturn, 1) := by decide +kernel
theorem d_L_law_943 : decode code 943 = .ok (.iload 5, 2) := by decide +kernel
theorem d_L_law_945 : decode code 945 = .ok (.ifCond .ne 15, 3) := by decide +kernel
theorem d_L_law_948 : decode code 948 = .ok (.aload_n 3, 1) := by decide +kernel
theorem d_L_law_949 : decode code 949 = .ok (.iconst 0, 1) := by decide +kernel
theorem d_L_law_950 : decode code 950 = .ok (.laload, 1) := by decide +kernel
theorem d_L_law_951 : decode code 951 = .ok (.iload 6, 2) := by decide +kernel
theorem d_L_law_953 : decode code 953 = .ok (.i2l, 1) := by decide +kernel
theorem d_L_law_954 : decode code 954 = .ok (.lcmp, 1) := by decide +kernel
theorem d_L_law_955 : decode code 955 = .ok (.ifCond .eq 5, 3) := by decide +kernel
theorem d_L_law_958 : decode code 958 = .ok (.iconst 0, 1) := by decide +kernel
theorem d_L_law_959 : decode code 959 = .ok (.ireturn, 1) := by decide +kernel
theorem d_L_law_960 : decode code 960 = .ok (.goto 126, 3) := by decide +kernel
theorem d_L_law_963 : decode code 963 = .ok (.aload_n 1, 1) := by decide +kernel
theorem d_L_law_964 : decode code 964 = .ok (.aload_n 0, 1) := by decide +kernel
theorem d_L_law_965 : decode code 965 = .ok (.iload 4, 2) := by decide +kernel
theorem d_L_law_967 : decode code 967 = .ok (.iconst 1, 1) := by decide +kernel
theorem d_L_law_968 : decode code 968 = .ok (.iadd, 1) := by decide +kernel
theorem d_L_law_969 : decode code 969 = .ok (.iaload, 1) := by decide +kernel
theorem d_L_law_970 : decode code 970 = .ok (.aload_n 3, 1) := by decide +kernel
theorem d_L_law_971 : decode code 971 = .ok (.invokestatic 120, 3) := by decide +kernel
theorem d_L_law_974 : decode code 974 = .ok (.istore 5, 2) := by decide +kernel
theorem d_L_law_976 : decode code 976 = .ok (.aload_n 2, 1) := by decide +kernel
theorem d_L_law_977 : decode code 977 = .ok (.aload_n 0, 1) := by decide +kernel
theorem d_L_law_978 : decode code 978 = .ok (.iload 4, 2) := by decide +kernel
theorem d_L_law_980 : decode code 980 = .ok (.iconst 1, 1) := by decide +kernel
theorem d_L_law_981 : decode code 981 = .ok (.iadd, 1) := by decide +kernel
theorem d_L_law_982 : decode code 982 = .ok (.iaload, 1) := by decide +kernel
theorem d_L_law_983 : decode code 983 = .ok (.invokevirtual 122, 3) := by decide +kernel
theorem d_L_law_986 : decode code 986 = .ok (.istore 6, 2) := by decide +kernel
theorem d_L_law_988 : decode code 988 = .ok (.aload_n 2, 1) := by decide +kernel
theorem d_L_law_989 : decode code 989 = .ok (.invokevirtual 68, 3) := by decide +kernel
theorem d_L_law_992 : decode code 992 = .ok (.iload 5, 2) := by decide +kernel
theorem d_L_law_994 : decode code 994 = .ok (.if_icmp .eq 5, 3) := by decide +kernel
theorem d_L_law_997 : decode code 997 = .ok (.iconst 0, 1) := by decide +kernel
theorem d_L_law_998 : decode code 998 = .ok (.ireturn, 1) := by decide +kernel
theorem d_L_law_999 : decode code 999 = .ok (.iload 5, 2) := by decide +kernel
theorem d_L_law_1001 : decode code 1001 = .ok (.ifCond .ne 15, 3) := by decide +kernel
theorem d_L_law_1004 : decode code 1004 = .ok (.aload_n 3, 1) := by decide +kernel
theorem d_L_law_1005 : decode code 1005 = .ok (.iconst 0, 1) := by decide +kernel
theorem d_L_law_1006 : decode code 1006 = .ok (.laload, 1) := by decide +kernel
theorem d_L_law_1007 : decode code 1007 = .ok (.iload 6, 2) := by decide +kernel
theorem d_L_law_1009 : decode code 1009 = .ok (.i2l, 1) := by decide +kernel
theorem d_L_law_1010 : decode code 1010 = .ok (.lcmp, 1) := by decide +kernel
theorem d_L_law_1011 : decode code 1011 = .ok (.ifCond .eq 5, 3) := by decide +kernel
theorem d_L_law_1014 : decode code 1014 = .ok (.iconst 0, 1) := by decide +kernel
theorem d_L_law_1015 : decode code 1015 = .ok (.ireturn, 1) := by decide +kernel
theorem d_L_law_1016 : decode code 1016 = .ok (.goto 70, 3) := by decide +kernel
theorem d_L_law_1019 : decode code 1019 = .ok (.aload_n 1, 1) := by decide +kernel
theorem d_L_law_1020 : decode code 1020 = .ok (.aload_n 0, 1) := by decide +kernel
theorem d_L_law_1021 : decode code 1021 = .ok (.iload 4, 2) := by decide +kernel
theorem d_L_law_1023 : decode code 1023 = .ok (.iconst 1, 1) := by decide +kernel
theorem d_L_law_1024 : decode code 1024 = .ok (.iadd, 1) := by decide +kernel
theorem d_L_law_1025 : decode code 1025 = .ok (.iaload, 1) := by decide +kernel
theorem d_L_law_1026 : decode code 1026 = .ok (.ifCond .eq 7, 3) := by decide +kernel
theorem d_L_law_1029 : decode code 1029 = .ok (.iconst 1, 1) := by decide +kernel
theorem d_L_law_1030 : decode code 1030 = .ok (.goto 4, 3) := by decide +kernel
theorem d_L_law_1033 : decode code 1033 = .ok (.iconst 0, 1) := by decide +kernel
theorem d_L_law_1034 : decode code 1034 = .ok (.invokevirtual 123, 3) := by decide +kernel
theorem d_L_law_1037 : decode code 1037 = .ok (.aload_n 2, 1) := by decide +kernel
theorem d_L_law_1038 : decode code 1038 = .ok (.aload_n 0, 1) := by decide +kernel
theorem d_L_law_1039 : decode code 1039 = .ok (.iload 4, 2) := by decide +kernel
theorem d_L_law_1041 : decode code 1041 = .ok (.iconst 1, 1) := by decide +kernel
theorem d_L_law_1042 : decode code 1042 = .ok (.iadd, 1) := by decide +kernel
theorem d_L_law_1043 : decode code 1043 = .ok (.iaload, 1) := by decide +kernel
theorem d_L_law_1044 : decode code 1044 = .ok (.ifCond .eq 7, 3) := by decide +kernel
theorem d_L_law_1047 : decode code 1047 = .ok (.iconst 1, 1) := by decide +kernel
theorem d_L_law_1048 : decode code 1048 = .ok (.goto 4, 3) := by decide +kernel
theorem d_L_law_1051 : decode code 1051 = .ok (.iconst 0, 1) := by decide +kernel
theorem d_L_law_1052 : decode code 1052 = .ok (.invokevirtual 127, 3) := by decide +kernel
theorem d_L_law_1055 : decode code 1055 = .ok (.if_icmp .eq 31, 3) := by decide +kernel
theorem d_L_law_1058 : decode code 1058 = .ok (.iconst 0, 1) := by decide +kernel
theorem d_L_law_1059 : decode code 1059 = .ok (.ireturn, 1) := by decide +kernel
theorem d_L_law_1060 : decode code 1060 = .ok (.aload_n 1, 1) := by decide +kernel
theorem d_L_law_1061 : decode code 1061 = .ok (.invokevirtual 128, 3) := by decide +kernel
theorem d_L_law_1064 : decode code 1064 = .ok (.aload_n 2, 1) := by decide +kernel
theorem d_L_law_1065 : decode code 1065 = .ok (.invokevirtual 131, 3) := by decide +kernel
theorem d_L_law_1068 : decode code 1068 = .ok (.if_icmp .eq 18, 3) := by decide +kernel
theorem d_L_law_1071 : decode code 1071 = .ok (.iconst 0, 1) := by decide +kernel
theorem d_L_law_1072 : decode code 1072 = .ok (.ireturn, 1) := by decide +kernel
theorem d_L_law_1073 : decode code 1073 = .ok (.aload_n 1, 1) := by decide +kernel
theorem d_L_law_1074 : decode code 1074 = .ok (.invokevirtual 132, 3) := by decide +kernel
theorem d_L_law_1077 : decode code 1077 = .ok (.aload_n 2, 1) := by decide +kernel
theorem d_L_law_1078 : decode code 1078 = .ok (.invokevirtual 135, 3) := by decide +kernel
theorem d_L_law_1081 : decode code 1081 = .ok (.if_icmp .eq 5, 3) := by decide +kernel
theorem d_L_law_1084 : decode code 1084 = .ok (.iconst 0, 1) := by decide +kernel
theorem d_L_law_1085 : decode code 1085 = .ok (.ireturn, 1) := by decide +kernel
theorem d_L_law_1086 : decode code 1086 = .ok (.iinc 4 4, 3) := by decide +kernel
theorem d_L_law_1089 : decode code 1089 = .ok (.goto (-1066), 3) := by decide +kernel
theorem d_L_law_1092 : decode code 1092 = .ok (.iconst 1, 1) := by decide +kernel
theorem d_L_law_1093 : decode code 1093 = .ok (.ireturn, 1) := by decide +kernel
end
section
/-! what stands where: M -/
theorem d_M_init_0 : decode prog_7_method_1_code 0 = .ok (.aload_n 0, 1) := by decide +kernel
theorem d_M_init_1 : decode prog_7_method_1_code 1 = .ok (.invokespecial 1, 3) := by decide +kernel
theorem d_M_init_4 : decode prog_7_method_1_code 4 = .ok (.aload_n 0, 1) := by decide +kernel
theorem d_M_init_5 : decode prog_7_method_1_code 5 = .ok (.bipush 8, 2) := by decide +kernel
theorem d_M_init_7 : decode prog_7_method_1_code 7 = .ok (.newarray .int, 2) := by decide +kernel
theorem d_M_init_9 : decode prog_7_method_1_code 9 = .ok (.putfield 7, 3) := by decide +kernel
theorem d_M_init_12 : decode prog_7_method_1_code 12 = .ok (.aload_n 0, 1) := by decide +kernel
theorem d_M_init_13 : decode prog_7_method_1_code 13 = .ok (.bipush 64, 2) := by decide +kernel
theorem d_M_init_15 : decode prog_7_method_1_code 15 = .ok (.newarray .int, 2) := by decide +kernel
theorem d_M_init_17 : decode prog_7_method_1_code 17 = .ok (.putfield 13, 3) := by decide +kernel
theorem d_M_init_20 : decode prog_7_method_1_code 20 = .ok (.aload_n 0, 1) := by decide +kernel
theorem d_M_init_21 : decode prog_7_method_1_code 21 = .ok (.bipush 8, 2) := by decide +kernel
theorem d_M_init_23 : decode prog_7_method_1_code 23 = .ok (.newarray .int, 2) := by decide +kernel
theorem d_M_init_25 : decode prog_7_method_1_code 25 = .ok (.putfield 16, 3) := by decide +kernel
theorem d_M_init_28 : decode prog_7_method_1_code 28 = .ok (.aload_n 0, 1) := by decide +kernel
theorem d_M_init_29 : decode prog_7_method_1_code 29 = .ok (.bipush 64, 2) := by decide +kernel
theorem d_M_init_31 : decode prog_7_method_1_code 31 = .ok (.newarray .int, 2) := by decide +kernel
theorem d_M_init_33 : decode prog_7_method_1_code 33 = .ok (.putfield 19, 3) := by decide +kernel
theorem d_M_init_36 : decode prog_7_method_1_code 36 = .ok (.aload_n 0, 1) := by decide +kernel
theorem d_M_init_37 : decode prog_7_method_1_code 37 = .ok (.bipush 8, 2) := by decide +kernel
theorem d_M_init_39 : decode prog_7_method_1_code 39 = .ok (.newarray .int, 2) := by decide +kernel
theorem d_M_init_41 : decode prog_7_method_1_code 41 = .ok (.putfield 22, 3) := by decide +kernel
theorem d_M_init_44 : decode prog_7_method_1_code 44 = .ok (.aload_n 0, 1) := by decide +kernel
theorem d_M_init_45 : decode prog_7_method_1_code 45 = .ok (.bipush 8, 2) := by decide +kernel
theorem d_M_init_47 : decode prog_7_method_1_code 47 = .ok (.newarray .int, 2) := by decide +kernel
theorem d_M_init_49 : decode prog_7_method_1_code 49 = .ok (.putfield 25, 3) := by decide +kernel
theorem d_M_init_52 : decode prog_7_method_1_code 52 = .ok (.aload_n 0, 1) := by decide +kernel
theorem d_M_init_53 : decode prog_7_method_1_code 53 = .ok (.bipush 8, 2) := by decide +kernel
theorem d_M_init_55 : decode prog_7_method_1_code 55 = .ok (.newarray .int, 2) := by decide +kernel
theorem d_M_init_57 : decode prog_7_method_1_code 57 = .ok (.putfield 28, 3) := by decide +kernel
theorem d_M_init_60 : decode prog_7_method_1_code 60 = .ok (.aload_n 0, 1) := by decide +kernel
theorem d_M_init_61 : decode prog_7_method_1_code 61 = .ok (.bipush 8, 2) := by decide +kernel
theorem d_M_init_63 : decode prog_7_method_1_code 63 = .ok (.newarray .int, 2) := by decide +kernel
theorem d_M_init_65 : decode prog_7_method_1_code 65 = .ok (.putfield 31, 3) := by decide +kernel
theorem d_M_init_68 : decode prog_7_method_1_code 68 = .ok (.aload_n 0, 1) := by decide +kernel
theorem d_M_init_69 : decode prog_7_method_1_code 69 = .ok (.bipush 8, 2) := by decide +kernel
theorem d_M_init_71 : decode prog_7_method_1_code 71 = .ok (.newarray .int, 2) := by decide +kernel
theorem d_M_init_73 : decode prog_7_method_1_code 73 = .ok (.putfield 34, 3) := by decide +kernel
theorem d_M_init_76 : decode prog_7_method_1_code 76 = .ok (.aload_n 0, 1) := by decide +kernel
theorem d_M_init_77 : decode prog_7_method_1_code 77 = .ok (.bipush 8, 2) := by decide +kernel
theorem d_M_init_79 : decode prog_7_method_1_code 79 = .ok (.newarray .int, 2) := by decide +kernel
theorem d_M_init_81 : decode prog_7_method_1_code 81 = .ok (.putfield 37, 3) := by decide +kernel
theorem d_M_init_84 : decode prog_7_method_1_code 84 = .ok (.aload_n 0, 1) := by decide +kernel
theorem d_M_init_85 : decode prog_7_method_1_code 85 = .ok (.bipush 64, 2) := by decide +kernel
theorem d_M_init_87 : decode prog_7_method_1_code 87 = .ok (.newarray .int, 2) := by decide +kernel
theorem d_M_init_89 : decode prog_7_method_1_code 89 = .ok (.putfield 40, 3) := by decide +kernel
theorem d_M_init_92 : decode prog_7_method_1_code 92 = .ok (.return_, 1) := by decide +kernel
theorem d_M_thrown_0 : decode prog_7_method_2_code 0 = .ok (.aload_n 0, 1) := by decide +kernel
theorem d_M_thrown_1 : decode prog_7_method_2_code 1 = .ok (.getfield 43, 3) := by decide +kernel
theorem d_M_thrown_4 : decode prog_7_method_2_code 4 = .ok (.ireturn, 1) := by decide +kernel
theorem d_M_isPerson_0 : decode prog_7_method_3_code 0 = .ok (.iload_n 1, 1) := by decide +kernel
theorem d_M_isPerson_1 : decode prog_7_method_3_code 1 = .ok (.ifCond .lt 15, 3) := by decide +kernel
theorem d_M_isPerson_4 : decode prog_7_method_3_code 4 = .ok (.iload_n 1, 1) := by decide +kernel
theorem d_M_isPerson_5 : decode prog_7_method_3_code 5 = .ok (.aload_n 0, 1) := by decide +kernel
theorem d_M_isPerson_6 : decode prog_7_method_3_code 6 = .ok (.getfield 47, 3) := by decide +kernel
theorem d_M_isPerson_9 : decode prog_7_method_3_code 9 = .ok (.if_icmp .ge 7, 3) := by decide +kernel
theorem d_M_isPerson_12 : decode prog_7_method_3_code 12 = .ok (.iconst 1, 1) := by decide +kernel
theorem d_M_isPerson_13 : decode prog_7_method_3_code 13 = .ok (.goto 4, 3) := by decide +kernel
theorem d_M_isPerson_16 : decode prog_7_method_3_code 16 = .ok (.iconst 0, 1) := by decide +kernel
theorem d_M_isPerson_17 : decode prog_7_method_3_code 17 = .ok (.ireturn, 1) := by decide +kernel
theorem d_M_placeOf_0 : decode prog_7_method_4_code 0 = .ok (.iconst (-1), 1) := by decide +kernel
theorem d_M_placeOf_1 : decode prog_7_method_4_code 1 = .ok (.istore_n 3, 1) := by decide +kernel
theorem d_M_placeOf_2 : decode prog_7_method_4_code 2 = .ok (.iconst 0, 1) := by decide +kernel
theorem d_M_placeOf_3 : decode prog_7_method_4_code 3 = .ok (.istore 4, 2) := by decide +kernel
theorem d_M_placeOf_5 : decode prog_7_method_4_code 5 = .ok (.iload 4, 2) := by decide +kernel
theorem d_M_placeOf_7 : decode prog_7_method_4_code 7 = .ok (.aload_n 0, 1) := by decide +kernel
theorem d_M_placeOf_8 : decode prog_7_method_4_code 8 = .ok (.getfield 7, 3) := by decide +kernel
theorem d_M_placeOf_11 : decode prog_7_method_4_code 11 = .ok (.iload_n 1, 1) := by decide +kernel
theorem d_M_placeOf_12 : decode prog_7_method_4_code 12 = .ok (.iaload, 1) := by decide +kernel
theorem d_M_placeOf_13 : decode prog_7_method_4_code 13 = .ok (.if_icmp .ge 32, 3) := by decide +kernel
theorem d_M_placeOf_16 : decode prog_7_method_4_code 16 = .ok (.aload_n 0, 1) := by decide +kernel
theorem d_M_placeOf_17 : decode prog_7_method_4_code 17 = .ok (.getfield 13, 3) := by decide +kernel
theorem d_M_placeOf_20 : decode prog_7_method_4_code 20 = .ok (.bipush 8, 2) := by decide +kernel
theorem d_M_placeOf_22 : decode prog_7_method_4_code 22 = .ok (.iload_n 1, 1) := by decide +kernel
theorem d_M_placeOf_23 : decode prog_7_method_4_code 23 = .ok (.imul, 1) := by decide +kernel
theorem d_M_placeOf_24 : decode prog_7_method_4_code 24 = .ok (.iload 4, 2) := by decide +kernel
theorem d_M_placeOf_26 : decode prog_7_method_4_code 26 = .ok (.iadd, 1) := by decide +kernel
theorem d_M_placeOf_27 : decode prog_7_method_4_code 27 = .ok (.iaload, 1) := by decide +kernel
theorem d_M_placeOf_28 : decode prog_7_method_4_code 28 = .ok (.iload_n 2, 1) := by decide +kernel
theorem d_M_placeOf_29 : decode prog_7_method_4_code 29 = .ok (.if_icmp .ne 8, 3) := by decide +kernel
theorem d_M_placeOf_32 : decode prog_7_method_4_code 32 = .ok (.iload 4, 2) := by decide +kernel
theorem d_M_placeOf_34 : decode prog_7_method_4_code 34 = .ok (.goto 4, 3) := by decide +kernel
theorem d_M_placeOf_37 : decode prog_7_method_4_code 37 = .ok (.iload_n 3, 1) := by decide +kernel
theorem d_M_placeOf_38 : decode prog_7_method_4_code 38 = .ok (.istore_n 3, 1) := by decide +kernel
theorem d_M_placeOf_39 : decode prog_7_method_4_code 39 = .ok (.iinc 4 1, 3) := by decide +kernel
theorem d_M_placeOf_42 : decode prog_7_method_4_code 42 = .ok (.goto (-37), 3) := by decide +kernel
theorem d_M_placeOf_45 : decode prog_7_method_4_code 45 = .ok (.iload_n 3, 1) := by decide +kernel
theorem d_M_placeOf_46 : decode prog_7_method_4_code 46 = .ok (.ireturn, 1) := by decide +kernel
theorem d_M_mayBe_0 : decode prog_7_method_5_code 0 = .ok (.aload_n 0, 1) := by decide +kernel
theorem d_M_mayBe_1 : decode prog_7_method_5_code 1 = .ok (.iload_n 1, 1) := by decide +kernel
theorem d_M_mayBe_2 : decode prog_7_method_5_code 2 = .ok (.iload_n 2, 1) := by decide +kernel
theorem d_M_mayBe_3 : decode prog_7_method_5_code 3 = .ok (.invokevirtual 50, 3) := by decide +kernel
theorem d_M_mayBe_6 : decode prog_7_method_5_code 6 = .ok (.ifCond .lt 16, 3) := by decide +kernel
theorem d_M_mayBe_9 : decode prog_7_method_5_code 9 = .ok (.aload_n 0, 1) := by decide +kernel
theorem d_M_mayBe_10 : decode prog_7_method_5_code 10 = .ok (.iload_n 2, 1) := by decide +kernel
theorem d_M_mayBe_11 : decode prog_7_method_5_code 11 = .ok (.iload_n 1, 1) := by decide +kernel
theorem d_M_mayBe_12 : decode prog_7_method_5_code 12 = .ok (.invokevirtual 50, 3) := by decide +kernel
theorem d_M_mayBe_15 : decode prog_7_method_5_code 15 = .ok (.ifCond .lt 7, 3) := by decide +kernel
theorem d_M_mayBe_18 : decode prog_7_method_5_code 18 = .ok (.iconst 1, 1) := by decide +kernel
theorem d_M_mayBe_19 : decode prog_7_method_5_code 19 = .ok (.goto 4, 3) := by decide +kernel
theorem d_M_mayBe_22 : decode prog_7_method_5_code 22 = .ok (.iconst 0, 1) := by decide +kernel
theorem d_M_mayBe_23 : decode prog_7_method_5_code 23 = .ok (.ireturn, 1) := by decide +kernel
theorem d_M_prefers_0 : decode prog_7_method_6_code 0 = .ok (.iload_n 2, 1) := by decide +kernel
theorem d_M_prefers_1 : decode prog_7_method_6_code 1 = .ok (.iload_n 3, 1) := by decide +kernel
theorem d_M_prefers_2 : decode prog_7_method_6_code 2 = .ok (.if_icmp .eq 41, 3) := by decide +kernel
theorem d_M_prefers_5 : decode prog_7_method_6_code 5 = .ok (.iload_n 2, 1) := by decide +kernel
theorem d_M_prefers_6 : decode prog_7_method_6_code 6 = .ok (.iload_n 1, 1) := by decide +kernel
theorem d_M_prefers_7 : decode prog_7_method_6_code 7 = .ok (.if_icmp .eq 36, 3) := by decide +kernel
theorem d_M_prefers_10 : decode prog_7_method_6_code 10 = .ok (.aload_n 0, 1) := by decide +kernel
theorem d_M_prefers_11 : decode prog_7_method_6_code 11 = .ok (.iload_n 1, 1) := by decide +kernel
theorem d_M_prefers_12 : decode prog_7_method_6_code 12 = .ok (.iload_n 2, 1) := by decide +kernel
theorem d_M_prefers_13 : decode prog_7_method_6_code 13 = .ok (.invokevirtual 54, 3) := by decide +kernel
theorem d_M_prefers_16 : decode prog_7_method_6_code 16 = .ok (.ifCond .eq 27, 3) := by decide +kernel
theorem d_M_prefers_19 : decode prog_7_method_6_code 19 = .ok (.iload_n 3, 1) := by decide +kernel
theorem d_M_prefers_20 : decode prog_7_method_6_code 20 = .ok (.iload_n 1, 1) := by decide +kernel
theorem d_M_prefers_21 : decode prog_7_method_6_code 21 = .ok (.if_icmp .eq 18, 3) := by decide +kernel
theorem d_M_prefers_24 : decode prog_7_method_6_code 24 = .ok (.aload_n 0, 1) := by decide +kernel
theorem d_M_prefers_25 : decode prog_7_method_6_code 25 = .ok (.iload_n 1, 1) := by decide +kernel
theorem d_M_prefers_26 : decode prog_7_method_6_code 26 = .ok (.iload_n 2, 1) := by decide +kernel
theorem d_M_prefers_27 : decode prog_7_method_6_code 27 = .ok (.invokevirtual 50, 3) := by decide +kernel
theorem d_M_prefers_30 : decode prog_7_method_6_code 30 = .ok (.aload_n 0, 1) := by decide +kernel
theorem d_M_prefers_31 : decode prog_7_method_6_code 31 = .ok (.iload_n 1, 1) := by decide +kernel
theorem d_M_prefers_32 : decode prog_7_method_6_code 32 = .ok (.iload_n 3, 1) := by decide +kernel
theorem d_M_prefers_33 : decode prog_7_method_6_code 33 = .ok (.invokevirtual 50, 3) := by decide +kernel
theorem d_M_prefers_36 : decode prog_7_method_6_code 36 = .ok (.if_icmp .ge 7, 3) := by decide +kernel
theorem d_M_prefers_39 : decode prog_7_method_6_code 39 = .ok (.iconst 1, 1) := by decide +kernel
theorem d_M_prefers_40 : decode prog_7_method_6_code 40 = .ok (.goto 4, 3) := by decide +kernel
theorem d_M_prefers_43 : decode prog_7_method_6_code 43 = .ok (.iconst 0, 1) := by decide +kernel
theorem d_M_prefers_44 : decode prog_7_method_6_code 44 = .ok (.ireturn, 1) := by decide +kernel
theorem d_M_change_0 : decode prog_7_method_7_code 0 = .ok (.aload_n 0, 1) := by decide +kernel
theorem d_M_change_1 : decode prog_7_method_7_code 1 = .ok (.iconst 0, 1) := by decide +kernel
theorem d_M_change_2 : decode prog_7_method_7_code 2 = .ok (.putfield 58, 3) := by decide +kernel
theorem d_M_change_5 : decode prog_7_method_7_code 5 = .ok (.iconst 0, 1) := by decide +kernel
theorem d_M_change_6 : decode prog_7_method_7_code 6 = .ok (.istore_n 1, 1) := by decide +kernel
theorem d_M_change_7 : decode prog_7_method_7_code 7 = .ok (.iload_n 1, 1) := by decide +kernel
theorem d_M_change_8 : decode prog_7_method_7_code 8 = .ok (.aload_n 0, 1) := by decide +kernel
theorem d_M_change_9 : decode prog_7_method_7_code 9 = .ok (.getfield 47, 3) := by decide +kernel
theorem d_M_change_12 : decode prog_7_method_7_code 12 = .ok (.if_icmp .ge 44, 3) := by decide +kernel
theorem d_M_change_15 : decode prog_7_method_7_code 15 = .ok (.aload_n 0, 1) := by decide +kernel
theorem d_M_change_16 : decode prog_7_method_7_code 16 = .ok (.getfield 16, 3) := by decide +kernel
theorem d_M_change_19 : decode prog_7_method_7_code 19 = .ok (.iload_n 1, 1) := by decide +kernel
theorem d_M_change_20 : decode prog_7_method_7_code 20 = .ok (.iaload, 1) := by decide +kernel
theorem d_M_change_21 : decode prog_7_method_7_code 21 = .ok (.istore_n 2, 1) := by decide +kernel
theorem d_M_change_22 : decode prog_7_method_7_code 22 = .ok (.iload_n 2, 1) := by decide +kernel
theorem d_M_change_23 : decode prog_7_method_7_code 23 = .ok (.iload_n 1, 1) := by decide +kernel
theorem d_M_change_24 : decode prog_7_method_7_code 24 = .ok (.if_icmp .eq 26, 3) := by decide +kernel
theorem d_M_change_27 : decode prog_7_method_7_code 27 = .ok (.aload_n 0, 1) := by decide +kernel
theorem d_M_change_28 : decode prog_7_method_7_code 28 = .ok (.iload_n 1, 1) := by decide +kernel
theorem d_M_change_29 : decode prog_7_method_7_code 29 = .ok (.iload_n 2, 1) := by decide +kernel
theorem d_M_change_30 : decode prog_7_method_7_code 30 = .ok (.invokevirtual 54, 3) := by decide +kernel
theorem d_M_change_33 : decode prog_7_method_7_code 33 = .ok (.ifCond .ne 17, 3) := by decide +kernel
theorem d_M_change_36 : decode prog_7_method_7_code 36 = .ok (.aload_n 0, 1) := by decide +kernel
theorem d_M_change_37 : decode prog_7_method_7_code 37 = .ok (.getfield 16, 3) := by decide +kernel
theorem d_M_change_40 : decode prog_7_method_7_code 40 = .ok (.iload_n 1, 1) := by decide +kernel
theorem d_M_change_41 : decode prog_7_method_7_code 41 = .ok (.iload_n 1, 1) := by decide +kernel
theorem d_M_change_42 : decode prog_7_method_7_code 42 = .ok (.iastore, 1) := by decide +kernel
theorem d_M_change_43 : decode prog_7_method_7_code 43 = .ok (.aload_n 0, 1) := by decide +kernel
theorem d_M_change_44 : decode prog_7_method_7_code 44 = .ok (.getfield 16, 3) := by decide +kernel
theorem d_M_change_47 : decode prog_7_method_7_code 47 = .ok (.iload_n 2, 1) := by decide +kernel
theorem d_M_change_48 : decode prog_7_method_7_code 48 = .ok (.iload_n 2, 1) := by decide +kernel
theorem d_M_change_49 : decode prog_7_method_7_code 49 = .ok (.iastore, 1) := by decide +kernel
theorem d_M_change_50 : decode prog_7_method_7_code 50 = .ok (.iinc 1 1, 3) := by decide +kernel
theorem d_M_change_53 : decode prog_7_method_7_code 53 = .ok (.goto (-46), 3) := by decide +kernel
theorem d_M_change_56 : decode prog_7_method_7_code 56 = .ok (.return_, 1) := by decide +kernel
theorem d_M_people_0 : decode prog_7_method_8_code 0 = .ok (.aload_n 0, 1) := by decide +kernel
theorem d_M_people_1 : decode prog_7_method_8_code 1 = .ok (.iload_n 1, 1) := by decide +kernel
theorem d_M_people_2 : decode prog_7_method_8_code 2 = .ok (.ifCond .lt 9, 3) := by decide +kernel
theorem d_M_people_5 : decode prog_7_method_8_code 5 = .ok (.iload_n 1, 1) := by decide +kernel
theorem d_M_people_6 : decode prog_7_method_8_code 6 = .ok (.bipush 8, 2) := by decide +kernel
theorem d_M_people_8 : decode prog_7_method_8_code 8 = .ok (.if_icmp .le 7, 3) := by decide +kernel
theorem d_M_people_11 : decode prog_7_method_8_code 11 = .ok (.iconst 1, 1) := by decide +kernel
theorem d_M_people_12 : decode prog_7_method_8_code 12 = .ok (.goto 4, 3) := by decide +kernel
theorem d_M_people_15 : decode prog_7_method_8_code 15 = .ok (.iconst 0, 1) := by decide +kernel
theorem d_M_people_16 : decode prog_7_method_8_code 16 = .ok (.putfield 43, 3) := by decide +kernel
theorem d_M_people_19 : decode prog_7_method_8_code 19 = .ok (.aload_n 0, 1) := by decide +kernel
theorem d_M_people_20 : decode prog_7_method_8_code 20 = .ok (.getfield 43, 3) := by decide +kernel
theorem d_M_people_23 : decode prog_7_method_8_code 23 = .ok (.ifCond .le 5, 3) := by decide +kernel
theorem d_M_people_26 : decode prog_7_method_8_code 26 = .ok (.iconst 0, 1) := by decide +kernel
theorem d_M_people_27 : decode prog_7_method_8_code 27 = .ok (.ireturn, 1) := by decide +kernel
theorem d_M_people_28 : decode prog_7_method_8_code 28 = .ok (.aload_n 0, 1) := by decide +kernel
theorem d_M_people_29 : decode prog_7_method_8_code 29 = .ok (.getfield 47, 3) := by decide +kernel
theorem d_M_people_32 : decode prog_7_method_8_code 32 = .ok (.istore_n 2, 1) := by decide +kernel
theorem d_M_people_33 : decode prog_7_method_8_code 33 = .ok (.aload_n 0, 1) := by decide +kernel
theorem d_M_people_34 : decode prog_7_method_8_code 34 = .ok (.iload_n 1, 1) := by decide +kernel
theorem d_M_people_35 : decode prog_7_method_8_code 35 = .ok (.putfield 47, 3) := by decide +kernel
theorem d_M_people_38 : decode prog_7_method_8_code 38 = .ok (.iconst 0, 1) := by decide +kernel
theorem d_M_people_39 : decode prog_7_method_8_code 39 = .ok (.istore_n 3, 1) := by decide +kernel
theorem d_M_people_40 : decode prog_7_method_8_code 40 = .ok (.iload_n 3, 1) := by decide +kernel
theorem d_M_people_41 : decode prog_7_method_8_code 41 = .ok (.aload_n 0, 1) := by decide +kernel
theorem d_M_people_42 : decode prog_7_method_8_code 42 = .ok (.getfield 47, 3) := by decide +kernel
theorem d_M_people_45 : decode prog_7_method_8_code 45 = .ok (.if_icmp .ge 23, 3) := by decide +kernel
theorem d_M_people_48 : decode prog_7_method_8_code 48 = .ok (.aload_n 0, 1) := by decide +kernel
theorem d_M_people_49 : decode prog_7_method_8_code 49 = .ok (.getfield 7, 3) := by decide +kernel
theorem d_M_people_52 : decode prog_7_method_8_code 52 = .ok (.iload_n 3, 1) := by decide +kernel
theorem d_M_people_53 : decode prog_7_method_8_code 53 = .ok (.iconst 0, 1) := by decide +kernel
theorem d_M_people_54 : decode prog_7_method_8_code 54 = .ok (.iastore, 1) := by decide +kernel
theorem d_M_people_55 : decode prog_7_method_8_code 55 = .ok (.aload_n 0, 1) := by decide +kernel
theorem d_M_people_56 : decode prog_7_method_8_code 56 = .ok (.getfield 16, 3) := by decide +kernel
theorem d_M_people_59 : decode prog_7_method_8_code 59 = .ok (.iload_n 3, 1) := by decide +kernel
theorem d_M_people_60 : decode prog_7_method_8_code 60 = .ok (.iload_n 3, 1) := by decide +kernel
theorem d_M_people_61 : decode prog_7_method_8_code 61 = .ok (.iastore, 1) := by decide +kernel
theorem d_M_people_62 : decode prog_7_method_8_code 62 = .ok (.iinc 3 1, 3) := by decide +kernel
theorem d_M_people_65 : decode prog_7_method_8_code 65 = .ok (.goto (-25), 3) := by decide +kernel
theorem d_M_people_68 : decode prog_7_method_8_code 68 = .ok (.aload_n 0, 1) := by decide +kernel
theorem d_M_people_69 : decode prog_7_method_8_code 69 = .ok (.iconst 0, 1) := by decide +kernel
theorem d_M_people_70 : decode prog_7_method_8_code 70 = .ok (.putfield 58, 3) := by decide +kernel
theorem d_M_people_73 : decode prog_7_method_8_code 73 = .ok (.iload_n 2, 1) := by decide +kernel
theorem d_M_people_74 : decode prog_7_method_8_code 74 = .ok (.ireturn, 1) := by decide +kernel
theorem d_M_put_0 : decode prog_7_method_9_code 0 = .ok (.aload_n 0, 1) := by decide +kernel
theorem d_M_put_1 : decode prog_7_method_9_code 1 = .ok (.aload_n 0, 1) := by decide +kernel
theorem d_M_put_2 : decode prog_7_method_9_code 2 = .ok (.iload_n 1, 1) := by decide +kernel
theorem d_M_put_3 : decode prog_7_method_9_code 3 = .ok (.invokevirtual 62, 3) := by decide +kernel
theorem d_M_put_6 : decode prog_7_method_9_code 6 = .ok (.ifCond .eq 11, 3) := by decide +kernel
theorem d_M_put_9 : decode prog_7_method_9_code 9 = .ok (.aload_n 0, 1) := by decide +kernel
theorem d_M_put_10 : decode prog_7_method_9_code 10 = .ok (.iload_n 2, 1) := by decide +kernel
theorem d_M_put_11 : decode prog_7_method_9_code 11 = .ok (.invokevirtual 62, 3) := by decide +kernel
theorem d_M_put_14 : decode prog_7_method_9_code 14 = .ok (.ifCond .ne 7, 3) := by decide +kernel
theorem d_M_put_17 : decode prog_7_method_9_code 17 = .ok (.iconst 1, 1) := by decide +kernel
theorem d_M_put_18 : decode prog_7_method_9_code 18 = .ok (.goto 26, 3) := by decide +kernel
theorem d_M_put_21 : decode prog_7_method_9_code 21 = .ok (.iload_n 1, 1) := by decide +kernel
theorem d_M_put_22 : decode prog_7_method_9_code 22 = .ok (.iload_n 2, 1) := by decide +kernel
theorem d_M_put_23 : decode prog_7_method_9_code 23 = .ok (.if_icmp .ne 7, 3) := by decide +kernel
theorem d_M_put_26 : decode prog_7_method_9_code 26 = .ok (.iconst 2, 1) := by decide +kernel
theorem d_M_put_27 : decode prog_7_method_9_code 27 = .ok (.goto 17, 3) := by decide +kernel
theorem d_M_put_30 : decode prog_7_method_9_code 30 = .ok (.aload_n 0, 1) := by decide +kernel
theorem d_M_put_31 : decode prog_7_method_9_code 31 = .ok (.iload_n 1, 1) := by decide +kernel
theorem d_M_put_32 : decode prog_7_method_9_code 32 = .ok (.iload_n 2, 1) := by decide +kernel
theorem d_M_put_33 : decode prog_7_method_9_code 33 = .ok (.invokevirtual 50, 3) := by decide +kernel
theorem d_M_put_36 : decode prog_7_method_9_code 36 = .ok (.ifCond .lt 7, 3) := by decide +kernel
theorem d_M_put_39 : decode prog_7_method_9_code 39 = .ok (.iconst 3, 1) := by decide +kernel
theorem d_M_put_40 : decode prog_7_method_9_code 40 = .ok (.goto 4, 3) := by decide +kernel
theorem d_M_put_43 : decode prog_7_method_9_code 43 = .ok (.iconst 0, 1) := by decide +kernel
theorem d_M_put_44 : decode prog_7_method_9_code 44 = .ok (.putfield 43, 3) := by decide +kernel
theorem d_M_put_47 : decode prog_7_method_9_code 47 = .ok (.aload_n 0, 1) := by decide +kernel
theorem d_M_put_48 : decode prog_7_method_9_code 48 = .ok (.getfield 43, 3) := by decide +kernel
theorem d_M_put_51 : decode prog_7_method_9_code 51 = .ok (.ifCond .le 5, 3) := by decide +kernel
theorem d_M_put_54 : decode prog_7_method_9_code 54 = .ok (.iconst 0, 1) := by decide +kernel
theorem d_M_put_55 : decode prog_7_method_9_code 55 = .ok (.ireturn, 1) := by decide +kernel
theorem d_M_put_56 : decode prog_7_method_9_code 56 = .ok (.aload_n 0, 1) := by decide +kernel
theorem d_M_put_57 : decode prog_7_method_9_code 57 = .ok (.getfield 13, 3) := by decide +kernel
theorem d_M_put_60 : decode prog_7_method_9_code 60 = .ok (.bipush 8, 2) := by decide +kernel
theorem d_M_put_62 : decode prog_7_method_9_code 62 = .ok (.iload_n 1, 1) := by decide +kernel
theorem d_M_put_63 : decode prog_7_method_9_code 63 = .ok (.imul, 1) := by decide +kernel
theorem d_M_put_64 : decode prog_7_method_9_code 64 = .ok (.aload_n 0, 1) := by decide +kernel
theorem d_M_put_65 : decode prog_7_method_9_code 65 = .ok (.getfield 7, 3) := by decide +kernel
theorem d_M_put_68 : decode prog_7_method_9_code 68 = .ok (.iload_n 1, 1) := by decide +kernel
theorem d_M_put_69 : decode prog_7_method_9_code 69 = .ok (.iaload, 1) := by decide +kernel
theorem d_M_put_70 : decode prog_7_method_9_code 70 = .ok (.iadd, 1) := by decide +kernel
theorem d_M_put_71 : decode prog_7_method_9_code 71 = .ok (.iload_n 2, 1) := by decide +kernel
theorem d_M_put_72 : decode prog_7_method_9_code 72 = .ok (.iastore, 1) := by decide +kernel
theorem d_M_put_73 : decode prog_7_method_9_code 73 = .ok (.aload_n 0, 1) := by decide +kernel
theorem d_M_put_74 : decode prog_7_method_9_code 74 = .ok (.getfield 7, 3) := by decide +kernel
theorem d_M_put_77 : decode prog_7_method_9_code 77 = .ok (.iload_n 1, 1) := by decide +kernel
theorem d_M_put_78 : decode prog_7_method_9_code 78 = .ok (.dup2, 1) := by decide +kernel
theorem d_M_put_79 : decode prog_7_method_9_code 79 = .ok (.iaload, 1) := by decide +kernel
theorem d_M_put_80 : decode prog_7_method_9_code 80 = .ok (.iconst 1, 1) := by decide +kernel
theorem d_M_put_81 : decode prog_7_method_9_code 81 = .ok (.iadd, 1) := by decide +kernel
theorem d_M_put_82 : decode prog_7_method_9_code 82 = .ok (.iastore, 1) := by decide +kernel
theorem d_M_put_83 : decode prog_7_method_9_code 83 = .ok (.aload_n 0, 1) := by decide +kernel
theorem d_M_put_84 : decode prog_7_method_9_code 84 = .ok (.invokevirtual 66, 3) := by decide +kernel
theorem d_M_put_87 : decode prog_7_method_9_code 87 = .ok (.aload_n 0, 1) := by decide +kernel
theorem d_M_put_88 : decode prog_7_method_9_code 88 = .ok (.getfield 7, 3) := by decide +kernel
theorem d_M_put_91 : decode prog_7_method_9_code 91 = .ok (.iload_n 1, 1) := by decide +kernel
theorem d_M_put_92 : decode prog_7_method_9_code 92 = .ok (.iaload, 1) := by decide +kernel
theorem d_M_put_93 : decode prog_7_method_9_code 93 = .ok (.ireturn, 1) := by decide +kernel
theorem d_M_isPlace_0 : decode prog_7_method_10_code 0 = .ok (.aload_n 0, 1) := by decide +kernel
theorem d_M_isPlace_1 : decode prog_7_method_10_code 1 = .ok (.iload_n 1, 1) := by decide +kernel
theorem d_M_isPlace_2 : decode prog_7_method_10_code 2 = .ok (.invokevirtual 62, 3) := by decide +kernel
theorem d_M_isPlace_5 : decode prog_7_method_10_code 5 = .ok (.ifCond .eq 21, 3) := by decide +kernel
theorem d_M_isPlace_8 : decode prog_7_method_10_code 8 = .ok (.iload_n 2, 1) := by decide +kernel
theorem d_M_isPlace_9 : decode prog_7_method_10_code 9 = .ok (.ifCond .lt 17, 3) := by decide +kernel
theorem d_M_isPlace_12 : decode prog_7_method_10_code 12 = .ok (.iload_n 2, 1) := by decide +kernel
theorem d_M_isPlace_13 : decode prog_7_method_10_code 13 = .ok (.aload_n 0, 1) := by decide +kernel
theorem d_M_isPlace_14 : decode prog_7_method_10_code 14 = .ok (.getfield 7, 3) := by decide +kernel
theorem d_M_isPlace_17 : decode prog_7_method_10_code 17 = .ok (.iload_n 1, 1) := by decide +kernel
theorem d_M_isPlace_18 : decode prog_7_method_10_code 18 = .ok (.iaload, 1) := by decide +kernel
theorem d_M_isPlace_19 : decode prog_7_method_10_code 19 = .ok (.if_icmp .ge 7, 3) := by decide +kernel
theorem d_M_isPlace_22 : decode prog_7_method_10_code 22 = .ok (.iconst 1, 1) := by decide +kernel
theorem d_M_isPlace_23 : decode prog_7_method_10_code 23 = .ok (.goto 4, 3) := by decide +kernel
theorem d_M_isPlace_26 : decode prog_7_method_10_code 26 = .ok (.iconst 0, 1) := by decide +kernel
theorem d_M_isPlace_27 : decode prog_7_method_10_code 27 = .ok (.ireturn, 1) := by decide +kernel
theorem d_M_remove_0 : decode prog_7_method_11_code 0 = .ok (.aload_n 0, 1) := by decide +kernel
theorem d_M_remove_1 : decode prog_7_method_11_code 1 = .ok (.aload_n 0, 1) := by decide +kernel
theorem d_M_remove_2 : decode prog_7_method_11_code 2 = .ok (.iload_n 1, 1) := by decide +kernel
theorem d_M_remove_3 : decode prog_7_method_11_code 3 = .ok (.iload_n 2, 1) := by decide +kernel
theorem d_M_remove_4 : decode prog_7_method_11_code 4 = .ok (.invokevirtual 69, 3) := by decide +kernel
theorem d_M_remove_7 : decode prog_7_method_11_code 7 = .ok (.ifCond .eq 7, 3) := by decide +kernel
theorem d_M_remove_10 : decode prog_7_method_11_code 10 = .ok (.iconst 0, 1) := by decide +kernel
theorem d_M_remove_11 : decode prog_7_method_11_code 11 = .ok (.goto 4, 3) := by decide +kernel
theorem d_M_remove_14 : decode prog_7_method_11_code 14 = .ok (.iconst 1, 1) := by decide +kernel
theorem d_M_remove_15 : decode prog_7_method_11_code 15 = .ok (.putfield 43, 3) := by decide +kernel
theorem d_M_remove_18 : decode prog_7_method_11_code 18 = .ok (.aload_n 0, 1) := by decide +kernel
theorem d_M_remove_19 : decode prog_7_method_11_code 19 = .ok (.getfield 43, 3) := by decide +kernel
theorem d_M_remove_22 : decode prog_7_method_11_code 22 = .ok (.ifCond .le 5, 3) := by decide +kernel
theorem d_M_remove_25 : decode prog_7_method_11_code 25 = .ok (.iconst 0, 1) := by decide +kernel
theorem d_M_remove_26 : decode prog_7_method_11_code 26 = .ok (.ireturn, 1) := by decide +kernel
theorem d_M_remove_27 : decode prog_7_method_11_code 27 = .ok (.aload_n 0, 1) := by decide +kernel
theorem d_M_remove_28 : decode prog_7_method_11_code 28 = .ok (.getfield 13, 3) := by decide +kernel
theorem d_M_remove_31 : decode prog_7_method_11_code 31 = .ok (.bipush 8, 2) := by decide +kernel
theorem d_M_remove_33 : decode prog_7_method_11_code 33 = .ok (.iload_n 1, 1) := by decide +kernel
theorem d_M_remove_34 : decode prog_7_method_11_code 34 = .ok (.imul, 1) := by decide +kernel
theorem d_M_remove_35 : decode prog_7_method_11_code 35 = .ok (.iload_n 2, 1) := by decide +kernel
theorem d_M_remove_36 : decode prog_7_method_11_code 36 = .ok (.iadd, 1) := by decide +kernel
theorem d_M_remove_37 : decode prog_7_method_11_code 37 = .ok (.iaload, 1) := by decide +kernel
theorem d_M_remove_38 : decode prog_7_method_11_code 38 = .ok (.istore_n 3, 1) := by decide +kernel
theorem d_M_remove_39 : decode prog_7_method_11_code 39 = .ok (.aload_n 0, 1) := by decide +kernel
theorem d_M_remove_40 : decode prog_7_method_11_code 40 = .ok (.getfield 7, 3) := by decide +kernel
theorem d_M_remove_43 : decode prog_7_method_11_code 43 = .ok (.iload_n 1, 1) := by decide +kernel
theorem d_M_remove_44 : decode prog_7_method_11_code 44 = .ok (.dup2, 1) := by decide +kernel
theorem d_M_remove_45 : decode prog_7_method_11_code 45 = .ok (.iaload, 1) := by decide +kernel
theorem d_M_remove_46 : decode prog_7_method_11_code 46 = .ok (.iconst 1, 1) := by decide +kernel
theorem d_M_remove_47 : decode prog_7_method_11_code 47 = .ok (.isub, 1) := by decide +kernel
theorem d_M_remove_48 : decode prog_7_method_11_code 48 = .ok (.iastore, 1) := by decide +kernel
theorem d_M_remove_49 : decode prog_7_method_11_code 49 = .ok (.bipush 8, 2) := by decide +kernel
theorem d_M_remove_51 : decode prog_7_method_11_code 51 = .ok (.iload_n 1, 1) := by decide +kernel
theorem d_M_remove_52 : decode prog_7_method_11_code 52 = .ok (.imul, 1) := by decide +kernel
theorem d_M_remove_53 : decode prog_7_method_11_code 53 = .ok (.iload_n 2, 1) := by decide +kernel
theorem d_M_remove_54 : decode prog_7_method_11_code 54 = .ok (.iadd, 1) := by decide +kernel
theorem d_M_remove_55 : decode prog_7_method_11_code 55 = .ok (.istore 4, 2) := by decide +kernel
theorem d_M_remove_57 : decode prog_7_method_11_code 57 = .ok (.iload 4, 2) := by decide +kernel
theorem d_M_remove_59 : decode prog_7_method_11_code 59 = .ok (.bipush 8, 2) := by decide +kernel
theorem d_M_remove_61 : decode prog_7_method_11_code 61 = .ok (.iload_n 1, 1) := by decide +kernel
theorem d_M_remove_62 : decode prog_7_method_11_code 62 = .ok (.imul, 1) := by decide +kernel
theorem d_M_remove_63 : decode prog_7_method_11_code 63 = .ok (.aload_n 0, 1) := by decide +kernel
theorem d_M_remove_64 : decode prog_7_method_11_code 64 = .ok (.getfield 7, 3) := by decide +kernel
theorem d_M_remove_67 : decode prog_7_method_11_code 67 = .ok (.iload_n 1, 1) := by decide +kernel
theorem d_M_remove_68 : decode prog_7_method_11_code 68 = .ok (.iaload, 1) := by decide +kernel
theorem d_M_remove_69 : decode prog_7_method_11_code 69 = .ok (.iadd, 1) := by decide +kernel
theorem d_M_remove_70 : decode prog_7_method_11_code 70 = .ok (.if_icmp .ge 25, 3) := by decide +kernel
theorem d_M_remove_73 : decode prog_7_method_11_code 73 = .ok (.aload_n 0, 1) := by decide +kernel
theorem d_M_remove_74 : decode prog_7_method_11_code 74 = .ok (.getfield 13, 3) := by decide +kernel
theorem d_M_remove_77 : decode prog_7_method_11_code 77 = .ok (.iload 4, 2) := by decide +kernel
theorem d_M_remove_79 : decode prog_7_method_11_code 79 = .ok (.aload_n 0, 1) := by decide +kernel
theorem d_M_remove_80 : decode prog_7_method_11_code 80 = .ok (.getfield 13, 3) := by decide +kernel
theorem d_M_remove_83 : decode prog_7_method_11_code 83 = .ok (.iload 4, 2) := by decide +kernel
theorem d_M_remove_85 : decode prog_7_method_11_code 85 = .ok (.iconst 1, 1) := by decide +kernel
theorem d_M_remove_86 : decode prog_7_method_11_code 86 = .ok (.iadd, 1) := by decide +kernel
theorem d_M_remove_87 : decode prog_7_method_11_code 87 = .ok (.iaload, 1) := by decide +kernel
theorem d_M_remove_88 : decode prog_7_method_11_code 88 = .ok (.iastore, 1) := by decide +kernel
theorem d_M_remove_89 : decode prog_7_method_11_code 89 = .ok (.iinc 4 1, 3) := by decide +kernel
theorem d_M_remove_92 : decode prog_7_method_11_code 92 = .ok (.goto (-35), 3) := by decide +kernel
theorem d_M_remove_95 : decode prog_7_method_11_code 95 = .ok (.aload_n 0, 1) := by decide +kernel
theorem d_M_remove_96 : decode prog_7_method_11_code 96 = .ok (.invokevirtual 66, 3) := by decide +kernel
theorem d_M_remove_99 : decode prog_7_method_11_code 99 = .ok (.iload_n 3, 1) := by decide +kernel
theorem d_M_remove_100 : decode prog_7_method_11_code 100 = .ok (.ireturn, 1) := by decide +kernel
theorem d_M_move_0 : decode prog_7_method_12_code 0 = .ok (.aload_n 0, 1) := by decide +kernel
theorem d_M_move_1 : decode prog_7_method_12_code 1 = .ok (.aload_n 0, 1) := by decide +kernel
theorem d_M_move_2 : decode prog_7_method_12_code 2 = .ok (.iload_n 1, 1) := by decide +kernel
theorem d_M_move_3 : decode prog_7_method_12_code 3 = .ok (.iload_n 2, 1) := by decide +kernel
theorem d_M_move_4 : decode prog_7_method_12_code 4 = .ok (.invokevirtual 69, 3) := by decide +kernel
theorem d_M_move_7 : decode prog_7_method_12_code 7 = .ok (.ifCond .eq 16, 3) := by decide +kernel
theorem d_M_move_10 : decode prog_7_method_12_code 10 = .ok (.aload_n 0, 1) := by decide +kernel
theorem d_M_move_11 : decode prog_7_method_12_code 11 = .ok (.iload_n 1, 1) := by decide +kernel
theorem d_M_move_12 : decode prog_7_method_12_code 12 = .ok (.iload_n 3, 1) := by decide +kernel
theorem d_M_move_13 : decode prog_7_method_12_code 13 = .ok (.invokevirtual 69, 3) := by decide +kernel
theorem d_M_move_16 : decode prog_7_method_12_code 16 = .ok (.ifCond .eq 7, 3) := by decide +kernel
theorem d_M_move_19 : decode prog_7_method_12_code 19 = .ok (.iconst 0, 1) := by decide +kernel
theorem d_M_move_20 : decode prog_7_method_12_code 20 = .ok (.goto 4, 3) := by decide +kernel
theorem d_M_move_23 : decode prog_7_method_12_code 23 = .ok (.iconst 1, 1) := by decide +kernel
theorem d_M_move_24 : decode prog_7_method_12_code 24 = .ok (.putfield 43, 3) := by decide +kernel
theorem d_M_move_27 : decode prog_7_method_12_code 27 = .ok (.aload_n 0, 1) := by decide +kernel
theorem d_M_move_28 : decode prog_7_method_12_code 28 = .ok (.getfield 43, 3) := by decide +kernel
theorem d_M_move_31 : decode prog_7_method_12_code 31 = .ok (.ifCond .le 5, 3) := by decide +kernel
theorem d_M_move_34 : decode prog_7_method_12_code 34 = .ok (.iconst 0, 1) := by decide +kernel
theorem d_M_move_35 : decode prog_7_method_12_code 35 = .ok (.ireturn, 1) := by decide +kernel
theorem d_M_move_36 : decode prog_7_method_12_code 36 = .ok (.iload_n 2, 1) := by decide +kernel
theorem d_M_move_37 : decode prog_7_method_12_code 37 = .ok (.iload_n 3, 1) := by decide +kernel
theorem d_M_move_38 : decode prog_7_method_12_code 38 = .ok (.if_icmp .ge 7, 3) := by decide +kernel
theorem d_M_move_41 : decode prog_7_method_12_code 41 = .ok (.iconst 1, 1) := by decide +kernel
theorem d_M_move_42 : decode prog_7_method_12_code 42 = .ok (.goto 4, 3) := by decide +kernel
theorem d_M_move_45 : decode prog_7_method_12_code 45 = .ok (.iconst (-1), 1) := by decide +kernel
theorem d_M_move_46 : decode prog_7_method_12_code 46 = .ok (.istore 4, 2) := by decide +kernel
theorem d_M_move_48 : decode prog_7_method_12_code 48 = .ok (.aload_n 0, 1) := by decide +kernel
theorem d_M_move_49 : decode prog_7_method_12_code 49 = .ok (.getfield 13, 3) := by decide +kernel
theorem d_M_move_52 : decode prog_7_method_12_code 52 = .ok (.bipush 8, 2) := by decide +kernel
theorem d_M_move_54 : decode prog_7_method_12_code 54 = .ok (.iload_n 1, 1) := by decide +kernel
theorem d_M_move_55 : decode prog_7_method_12_code 55 = .ok (.imul, 1) := by decide +kernel
theorem d_M_move_56 : decode prog_7_method_12_code 56 = .ok (.iload_n 2, 1) := by decide +kernel
theorem d_M_move_57 : decode prog_7_method_12_code 57 = .ok (.iadd, 1) := by decide +kernel
theorem d_M_move_58 : decode prog_7_method_12_code 58 = .ok (.iaload, 1) := by decide +kernel
theorem d_M_move_59 : decode prog_7_method_12_code 59 = .ok (.istore 5, 2) := by decide +kernel
theorem d_M_move_61 : decode prog_7_method_12_code 61 = .ok (.iload_n 2, 1) := by decide +kernel
theorem d_M_move_62 : decode prog_7_method_12_code 62 = .ok (.istore 6, 2) := by decide +kernel
theorem d_M_move_64 : decode prog_7_method_12_code 64 = .ok (.iload 6, 2) := by decide +kernel
theorem d_M_move_66 : decode prog_7_method_12_code 66 = .ok (.iload_n 3, 1) := by decide +kernel
theorem d_M_move_67 : decode prog_7_method_12_code 67 = .ok (.if_icmp .eq 40, 3) := by decide +kernel
theorem d_M_move_70 : decode prog_7_method_12_code 70 = .ok (.aload_n 0, 1) := by decide +kernel
theorem d_M_move_71 : decode prog_7_method_12_code 71 = .ok (.getfield 13, 3) := by decide +kernel
theorem d_M_move_74 : decode prog_7_method_12_code 74 = .ok (.bipush 8, 2) := by decide +kernel
theorem d_M_move_76 : decode prog_7_method_12_code 76 = .ok (.iload_n 1, 1) := by decide +kernel
theorem d_M_move_77 : decode prog_7_method_12_code 77 = .ok (.imul, 1) := by decide +kernel
theorem d_M_move_78 : decode prog_7_method_12_code 78 = .ok (.iload 6, 2) := by decide +kernel
theorem d_M_move_80 : decode prog_7_method_12_code 80 = .ok (.iadd, 1) := by decide +kernel
theorem d_M_move_81 : decode prog_7_method_12_code 81 = .ok (.aload_n 0, 1) := by decide +kernel
theorem d_M_move_82 : decode prog_7_method_12_code 82 = .ok (.getfield 13, 3) := by decide +kernel
theorem d_M_move_85 : decode prog_7_method_12_code 85 = .ok (.bipush 8, 2) := by decide +kernel
theorem d_M_move_87 : decode prog_7_method_12_code 87 = .ok (.iload_n 1, 1) := by decide +kernel
theorem d_M_move_88 : decode prog_7_method_12_code 88 = .ok (.imul, 1) := by decide +kernel
theorem d_M_move_89 : decode prog_7_method_12_code 89 = .ok (.iload 6, 2) := by decide +kernel
theorem d_M_move_91 : decode prog_7_method_12_code 91 = .ok (.iadd, 1) := by decide +kernel
theorem d_M_move_92 : decode prog_7_method_12_code 92 = .ok (.iload 4, 2) := by decide +kernel
theorem d_M_move_94 : decode prog_7_method_12_code 94 = .ok (.iadd, 1) := by decide +kernel
theorem d_M_move_95 : decode prog_7_method_12_code 95 = .ok (.iaload, 1) := by decide +kernel
theorem d_M_move_96 : decode prog_7_method_12_code 96 = .ok (.iastore, 1) := by decide +kernel
theorem d_M_move_97 : decode prog_7_method_12_code 97 = .ok (.iload 6, 2) := by decide +kernel
theorem d_M_move_99 : decode prog_7_method_12_code 99 = .ok (.iload 4, 2) := by decide +kernel
theorem d_M_move_101 : decode prog_7_method_12_code 101 = .ok (.iadd, 1) := by decide +kernel
theorem d_M_move_102 : decode prog_7_method_12_code 102 = .ok (.istore 6, 2) := by decide +kernel
theorem d_M_move_104 : decode prog_7_method_12_code 104 = .ok (.goto (-40), 3) := by decide +kernel
theorem d_M_move_107 : decode prog_7_method_12_code 107 = .ok (.aload_n 0, 1) := by decide +kernel
theorem d_M_move_108 : decode prog_7_method_12_code 108 = .ok (.getfield 13, 3) := by decide +kernel
theorem d_M_move_111 : decode prog_7_method_12_code 111 = .ok (.bipush 8, 2) := by decide +kernel
theorem d_M_move_113 : decode prog_7_method_12_code 113 = .ok (.iload_n 1, 1) := by decide +kernel
theorem d_M_move_114 : decode prog_7_method_12_code 114 = .ok (.imul, 1) := by decide +kernel
theorem d_M_move_115 : decode prog_7_method_12_code 115 = .ok (.iload_n 3, 1) := by decide +kernel
theorem d_M_move_116 : decode prog_7_method_12_code 116 = .ok (.iadd, 1) := by decide +kernel
theorem d_M_move_117 : decode prog_7_method_12_code 117 = .ok (.iload 5, 2) := by decide +kernel
theorem d_M_move_119 : decode prog_7_method_12_code 119 = .ok (.iastore, 1) := by decide +kernel
theorem d_M_move_120 : decode prog_7_method_12_code 120 = .ok (.aload_n 0, 1) := by decide +kernel
theorem d_M_move_121 : decode prog_7_method_12_code 121 = .ok (.invokevirtual 66, 3) := by decide +kernel
theorem d_M_move_124 : decode prog_7_method_12_code 124 = .ok (.iload 5, 2) := by decide +kernel
theorem d_M_move_126 : decode prog_7_method_12_code 126 = .ok (.ireturn, 1) := by decide +kernel
theorem d_M_at_0 : decode prog_7_method_13_code 0 = .ok (.aload_n 0, 1) := by decide +kernel
theorem d_M_at_1 : decode prog_7_method_13_code 1 = .ok (.aload_n 0, 1) := by decide +kernel
theorem d_M_at_2 : decode prog_7_method_13_code 2 = .ok (.iload_n 1, 1) := by decide +kernel
theorem d_M_at_3 : decode prog_7_method_13_code 3 = .ok (.invokevirtual 62, 3) := by decide +kernel
theorem d_M_at_6 : decode prog_7_method_13_code 6 = .ok (.ifCond .eq 11, 3) := by decide +kernel
theorem d_M_at_9 : decode prog_7_method_13_code 9 = .ok (.iload_n 2, 1) := by decide +kernel
theorem d_M_at_10 : decode prog_7_method_13_code 10 = .ok (.ifCond .lt 7, 3) := by decide +kernel
theorem d_M_at_13 : decode prog_7_method_13_code 13 = .ok (.iconst 0, 1) := by decide +kernel
theorem d_M_at_14 : decode prog_7_method_13_code 14 = .ok (.goto 4, 3) := by decide +kernel
theorem d_M_at_17 : decode prog_7_method_13_code 17 = .ok (.iconst 1, 1) := by decide +kernel
theorem d_M_at_18 : decode prog_7_method_13_code 18 = .ok (.putfield 43, 3) := by decide +kernel
theorem d_M_at_21 : decode prog_7_method_13_code 21 = .ok (.aload_n 0, 1) := by decide +kernel
theorem d_M_at_22 : decode prog_7_method_13_code 22 = .ok (.getfield 43, 3) := by decide +kernel
theorem d_M_at_25 : decode prog_7_method_13_code 25 = .ok (.ifCond .le 5, 3) := by decide +kernel
theorem d_M_at_28 : decode prog_7_method_13_code 28 = .ok (.iconst 0, 1) := by decide +kernel
theorem d_M_at_29 : decode prog_7_method_13_code 29 = .ok (.ireturn, 1) := by decide +kernel
theorem d_M_at_30 : decode prog_7_method_13_code 30 = .ok (.iload_n 2, 1) := by decide +kernel
theorem d_M_at_31 : decode prog_7_method_13_code 31 = .ok (.aload_n 0, 1) := by decide +kernel
theorem d_M_at_32 : decode prog_7_method_13_code 32 = .ok (.getfield 7, 3) := by decide +kernel
theorem d_M_at_35 : decode prog_7_method_13_code 35 = .ok (.iload_n 1, 1) := by decide +kernel
theorem d_M_at_36 : decode prog_7_method_13_code 36 = .ok (.iaload, 1) := by decide +kernel
theorem d_M_at_37 : decode prog_7_method_13_code 37 = .ok (.if_icmp .ge 17, 3) := by decide +kernel
theorem d_M_at_40 : decode prog_7_method_13_code 40 = .ok (.aload_n 0, 1) := by decide +kernel
theorem d_M_at_41 : decode prog_7_method_13_code 41 = .ok (.getfield 13, 3) := by decide +kernel
theorem d_M_at_44 : decode prog_7_method_13_code 44 = .ok (.bipush 8, 2) := by decide +kernel
theorem d_M_at_46 : decode prog_7_method_13_code 46 = .ok (.iload_n 1, 1) := by decide +kernel
theorem d_M_at_47 : decode prog_7_method_13_code 47 = .ok (.imul, 1) := by decide +kernel
theorem d_M_at_48 : decode prog_7_method_13_code 48 = .ok (.iload_n 2, 1) := by decide +kernel
theorem d_M_at_49 : decode prog_7_method_13_code 49 = .ok (.iadd, 1) := by decide +kernel
theorem d_M_at_50 : decode prog_7_method_13_code 50 = .ok (.iaload, 1) := by decide +kernel
theorem d_M_at_51 : decode prog_7_method_13_code 51 = .ok (.goto 4, 3) := by decide +kernel
theorem d_M_at_54 : decode prog_7_method_13_code 54 = .ok (.iconst (-1), 1) := by decide +kernel
theorem d_M_at_55 : decode prog_7_method_13_code 55 = .ok (.ireturn, 1) := by decide +kernel
theorem d_M_place_0 : decode prog_7_method_14_code 0 = .ok (.aload_n 0, 1) := by decide +kernel
theorem d_M_place_1 : decode prog_7_method_14_code 1 = .ok (.aload_n 0, 1) := by decide +kernel
theorem d_M_place_2 : decode prog_7_method_14_code 2 = .ok (.iload_n 1, 1) := by decide +kernel
theorem d_M_place_3 : decode prog_7_method_14_code 3 = .ok (.invokevirtual 62, 3) := by decide +kernel
theorem d_M_place_6 : decode prog_7_method_14_code 6 = .ok (.ifCond .eq 15, 3) := by decide +kernel
theorem d_M_place_9 : decode prog_7_method_14_code 9 = .ok (.aload_n 0, 1) := by decide +kernel
theorem d_M_place_10 : decode prog_7_method_14_code 10 = .ok (.iload_n 2, 1) := by decide +kernel
theorem d_M_place_11 : decode prog_7_method_14_code 11 = .ok (.invokevirtual 62, 3) := by decide +kernel
theorem d_M_place_14 : decode prog_7_method_14_code 14 = .ok (.ifCond .eq 7, 3) := by decide +kernel
theorem d_M_place_17 : decode prog_7_method_14_code 17 = .ok (.iconst 0, 1) := by decide +kernel
theorem d_M_place_18 : decode prog_7_method_14_code 18 = .ok (.goto 4, 3) := by decide +kernel
theorem d_M_place_21 : decode prog_7_method_14_code 21 = .ok (.iconst 1, 1) := by decide +kernel
theorem d_M_place_22 : decode prog_7_method_14_code 22 = .ok (.putfield 43, 3) := by decide +kernel
theorem d_M_place_25 : decode prog_7_method_14_code 25 = .ok (.aload_n 0, 1) := by decide +kernel
theorem d_M_place_26 : decode prog_7_method_14_code 26 = .ok (.getfield 43, 3) := by decide +kernel
theorem d_M_place_29 : decode prog_7_method_14_code 29 = .ok (.ifCond .le 7, 3) := by decide +kernel
theorem d_M_place_32 : decode prog_7_method_14_code 32 = .ok (.iconst 0, 1) := by decide +kernel
theorem d_M_place_33 : decode prog_7_method_14_code 33 = .ok (.goto 9, 3) := by decide +kernel
theorem d_M_place_36 : decode prog_7_method_14_code 36 = .ok (.aload_n 0, 1) := by decide +kernel
theorem d_M_place_37 : decode prog_7_method_14_code 37 = .ok (.iload_n 1, 1) := by decide +kernel
theorem d_M_place_38 : decode prog_7_method_14_code 38 = .ok (.iload_n 2, 1) := by decide +kernel
theorem d_M_place_39 : decode prog_7_method_14_code 39 = .ok (.invokevirtual 50, 3) := by decide +kernel
theorem d_M_place_42 : decode prog_7_method_14_code 42 = .ok (.ireturn, 1) := by decide +kernel
theorem d_M_join_0 : decode prog_7_method_15_code 0 = .ok (.aload_n 0, 1) := by decide +kernel
theorem d_M_join_1 : decode prog_7_method_15_code 1 = .ok (.getfield 16, 3) := by decide +kernel
theorem d_M_join_4 : decode prog_7_method_15_code 4 = .ok (.iload_n 1, 1) := by decide +kernel
theorem d_M_join_5 : decode prog_7_method_15_code 5 = .ok (.iaload, 1) := by decide +kernel
theorem d_M_join_6 : decode prog_7_method_15_code 6 = .ok (.istore_n 3, 1) := by decide +kernel
theorem d_M_join_7 : decode prog_7_method_15_code 7 = .ok (.aload_n 0, 1) := by decide +kernel
theorem d_M_join_8 : decode prog_7_method_15_code 8 = .ok (.getfield 16, 3) := by decide +kernel
theorem d_M_join_11 : decode prog_7_method_15_code 11 = .ok (.iload_n 2, 1) := by decide +kernel
theorem d_M_join_12 : decode prog_7_method_15_code 12 = .ok (.iaload, 1) := by decide +kernel
theorem d_M_join_13 : decode prog_7_method_15_code 13 = .ok (.istore 4, 2) := by decide +kernel
theorem d_M_join_15 : decode prog_7_method_15_code 15 = .ok (.aload_n 0, 1) := by decide +kernel
theorem d_M_join_16 : decode prog_7_method_15_code 16 = .ok (.getfield 16, 3) := by decide +kernel
theorem d_M_join_19 : decode prog_7_method_15_code 19 = .ok (.iload_n 3, 1) := by decide +kernel
theorem d_M_join_20 : decode prog_7_method_15_code 20 = .ok (.iload_n 3, 1) := by decide +kernel
theorem d_M_join_21 : decode prog_7_method_15_code 21 = .ok (.iastore, 1) := by decide +kernel
theorem d_M_join_22 : decode prog_7_method_15_code 22 = .ok (.aload_n 0, 1) := by decide +kernel
theorem d_M_join_23 : decode prog_7_method_15_code 23 = .ok (.getfield 16, 3) := by decide +kernel
theorem d_M_join_26 : decode prog_7_method_15_code 26 = .ok (.iload 4, 2) := by decide +kernel
theorem d_M_join_28 : decode prog_7_method_15_code 28 = .ok (.iload 4, 2) := by decide +kernel
theorem d_M_join_30 : decode prog_7_method_15_code 30 = .ok (.iastore, 1) := by decide +kernel
theorem d_M_join_31 : decode prog_7_method_15_code 31 = .ok (.aload_n 0, 1) := by decide +kernel
theorem d_M_join_32 : decode prog_7_method_15_code 32 = .ok (.getfield 16, 3) := by decide +kernel
theorem d_M_join_35 : decode prog_7_method_15_code 35 = .ok (.iload_n 1, 1) := by decide +kernel
theorem d_M_join_36 : decode prog_7_method_15_code 36 = .ok (.iload_n 2, 1) := by decide +kernel
theorem d_M_join_37 : decode prog_7_method_15_code 37 = .ok (.iastore, 1) := by decide +kernel
theorem d_M_join_38 : decode prog_7_method_15_code 38 = .ok (.aload_n 0, 1) := by decide +kernel
theorem d_M_join_39 : decode prog_7_method_15_code 39 = .ok (.getfield 16, 3) := by decide +kernel
theorem d_M_join_42 : decode prog_7_method_15_code 42 = .ok (.iload_n 2, 1) := by decide +kernel
theorem d_M_join_43 : decode prog_7_method_15_code 43 = .ok (.iload_n 1, 1) := by decide +kernel
theorem d_M_join_44 : decode prog_7_method_15_code 44 = .ok (.iastore, 1) := by decide +kernel
theorem d_M_join_45 : decode prog_7_method_15_code 45 = .ok (.return_, 1) := by decide +kernel
theorem d_M_blocks_0 : decode prog_7_method_16_code 0 = .ok (.aload_n 3, 1) := by decide +kernel
theorem d_M_blocks_1 : decode prog_7_method_16_code 1 = .ok (.iload_n 1, 1) := by decide +kernel
theorem d_M_blocks_2 : decode prog_7_method_16_code 2 = .ok (.iaload, 1) := by decide +kernel
theorem d_M_blocks_3 : decode prog_7_method_16_code 3 = .ok (.iload_n 2, 1) := by decide +kernel
theorem d_M_blocks_4 : decode prog_7_method_16_code 4 = .ok (.if_icmp .eq 31, 3) := by decide +kernel
theorem d_M_blocks_7 : decode prog_7_method_16_code 7 = .ok (.aload_n 0, 1) := by decide +kernel
theorem d_M_blocks_8 : decode prog_7_method_16_code 8 = .ok (.iload_n 1, 1) := by decide +kernel
theorem d_M_blocks_9 : decode prog_7_method_16_code 9 = .ok (.iload_n 2, 1) := by decide +kernel
theorem d_M_blocks_10 : decode prog_7_method_16_code 10 = .ok (.aload_n 3, 1) := by decide +kernel
theorem d_M_blocks_11 : decode prog_7_method_16_code 11 = .ok (.iload_n 1, 1) := by decide +kernel
theorem d_M_blocks_12 : decode prog_7_method_16_code 12 = .ok (.iaload, 1) := by decide +kernel
theorem d_M_blocks_13 : decode prog_7_method_16_code 13 = .ok (.invokevirtual 72, 3) := by decide +kernel
theorem d_M_blocks_16 : decode prog_7_method_16_code 16 = .ok (.ifCond .eq 19, 3) := by decide +kernel
theorem d_M_blocks_19 : decode prog_7_method_16_code 19 = .ok (.aload_n 0, 1) := by decide +kernel
theorem d_M_blocks_20 : decode prog_7_method_16_code 20 = .ok (.iload_n 2, 1) := by decide +kernel
theorem d_M_blocks_21 : decode prog_7_method_16_code 21 = .ok (.iload_n 1, 1) := by decide +kernel
theorem d_M_blocks_22 : decode prog_7_method_16_code 22 = .ok (.aload_n 3, 1) := by decide +kernel
theorem d_M_blocks_23 : decode prog_7_method_16_code 23 = .ok (.iload_n 2, 1) := by decide +kernel
theorem d_M_blocks_24 : decode prog_7_method_16_code 24 = .ok (.iaload, 1) := by decide +kernel
theorem d_M_blocks_25 : decode prog_7_method_16_code 25 = .ok (.invokevirtual 72, 3) := by decide +kernel
theorem d_M_blocks_28 : decode prog_7_method_16_code 28 = .ok (.ifCond .eq 7, 3) := by decide +kernel
theorem d_M_blocks_31 : decode prog_7_method_16_code 31 = .ok (.iconst 1, 1) := by decide +kernel
theorem d_M_blocks_32 : decode prog_7_method_16_code 32 = .ok (.goto 4, 3) := by decide +kernel
theorem d_M_blocks_35 : decode prog_7_method_16_code 35 = .ok (.iconst 0, 1) := by decide +kernel
theorem d_M_blocks_36 : decode prog_7_method_16_code 36 = .ok (.ireturn, 1) := by decide +kernel
theorem d_M_wouldLeave_0 : decode prog_7_method_17_code 0 = .ok (.aload_n 0, 1) := by decide +kernel
theorem d_M_wouldLeave_1 : decode prog_7_method_17_code 1 = .ok (.getfield 40, 3) := by decide +kernel
theorem d_M_wouldLeave_4 : decode prog_7_method_17_code 4 = .ok (.bipush 8, 2) := by decide +kernel
theorem d_M_wouldLeave_6 : decode prog_7_method_17_code 6 = .ok (.iload_n 1, 1) := by decide +kernel
theorem d_M_wouldLeave_7 : decode prog_7_method_17_code 7 = .ok (.imul, 1) := by decide +kernel
theorem d_M_wouldLeave_8 : decode prog_7_method_17_code 8 = .ok (.iload_n 2, 1) := by decide +kernel
theorem d_M_wouldLeave_9 : decode prog_7_method_17_code 9 = .ok (.iadd, 1) := by decide +kernel
theorem d_M_wouldLeave_10 : decode prog_7_method_17_code 10 = .ok (.iaload, 1) := by decide +kernel
theorem d_M_wouldLeave_11 : decode prog_7_method_17_code 11 = .ok (.istore 4, 2) := by decide +kernel
theorem d_M_wouldLeave_13 : decode prog_7_method_17_code 13 = .ok (.iload 4, 2) := by decide +kernel
theorem d_M_wouldLeave_15 : decode prog_7_method_17_code 15 = .ok (.bipush 50, 2) := by decide +kernel
theorem d_M_wouldLeave_17 : decode prog_7_method_17_code 17 = .ok (.if_icmp .ge 52, 3) := by decide +kernel
theorem d_M_wouldLeave_20 : decode prog_7_method_17_code 20 = .ok (.iload 4, 2) := by decide +kernel
theorem d_M_wouldLeave_22 : decode prog_7_method_17_code 22 = .ok (.aload_n 0, 1) := by decide +kernel
theorem d_M_wouldLeave_23 : decode prog_7_method_17_code 23 = .ok (.getfield 40, 3) := by decide +kernel
theorem d_M_wouldLeave_26 : decode prog_7_method_17_code 26 = .ok (.bipush 8, 2) := by decide +kernel
theorem d_M_wouldLeave_28 : decode prog_7_method_17_code 28 = .ok (.iload_n 1, 1) := by decide +kernel
theorem d_M_wouldLeave_29 : decode prog_7_method_17_code 29 = .ok (.imul, 1) := by decide +kernel
theorem d_M_wouldLeave_30 : decode prog_7_method_17_code 30 = .ok (.aload_n 3, 1) := by decide +kernel
theorem d_M_wouldLeave_31 : decode prog_7_method_17_code 31 = .ok (.iload_n 1, 1) := by decide +kernel
theorem d_M_wouldLeave_32 : decode prog_7_method_17_code 32 = .ok (.iaload, 1) := by decide +kernel
theorem d_M_wouldLeave_33 : decode prog_7_method_17_code 33 = .ok (.iadd, 1) := by decide +kernel
theorem d_M_wouldLeave_34 : decode prog_7_method_17_code 34 = .ok (.iaload, 1) := by decide +kernel
theorem d_M_wouldLeave_35 : decode prog_7_method_17_code 35 = .ok (.if_icmp .ge 34, 3) := by decide +kernel
theorem d_M_wouldLeave_38 : decode prog_7_method_17_code 38 = .ok (.aload_n 0, 1) := by decide +kernel
theorem d_M_wouldLeave_39 : decode prog_7_method_17_code 39 = .ok (.getfield 40, 3) := by decide +kernel
theorem d_M_wouldLeave_42 : decode prog_7_method_17_code 42 = .ok (.bipush 8, 2) := by decide +kernel
theorem d_M_wouldLeave_44 : decode prog_7_method_17_code 44 = .ok (.iload_n 2, 1) := by decide +kernel
theorem d_M_wouldLeave_45 : decode prog_7_method_17_code 45 = .ok (.imul, 1) := by decide +kernel
theorem d_M_wouldLeave_46 : decode prog_7_method_17_code 46 = .ok (.iload_n 1, 1) := by decide +kernel
theorem d_M_wouldLeave_47 : decode prog_7_method_17_code 47 = .ok (.iadd, 1) := by decide +kernel
theorem d_M_wouldLeave_48 : decode prog_7_method_17_code 48 = .ok (.iaload, 1) := by decide +kernel
theorem d_M_wouldLeave_49 : decode prog_7_method_17_code 49 = .ok (.aload_n 0, 1) := by decide +kernel
theorem d_M_wouldLeave_50 : decode prog_7_method_17_code 50 = .ok (.getfield 40, 3) := by decide +kernel
theorem d_M_wouldLeave_53 : decode prog_7_method_17_code 53 = .ok (.bipush 8, 2) := by decide +kernel
theorem d_M_wouldLeave_55 : decode prog_7_method_17_code 55 = .ok (.iload_n 2, 1) := by decide +kernel
theorem d_M_wouldLeave_56 : decode prog_7_method_17_code 56 = .ok (.imul, 1) := by decide +kernel
theorem d_M_wouldLeave_57 : decode prog_7_method_17_code 57 = .ok (.aload_n 3, 1) := by decide +kernel
theorem d_M_wouldLeave_58 : decode prog_7_method_17_code 58 = .ok (.iload_n 2, 1) := by decide +kernel
theorem d_M_wouldLeave_59 : decode prog_7_method_17_code 59 = .ok (.iaload, 1) := by decide +kernel
theorem d_M_wouldLeave_60 : decode prog_7_method_17_code 60 = .ok (.iadd, 1) := by decide +kernel
theorem d_M_wouldLeave_61 : decode prog_7_method_17_code 61 = .ok (.iaload, 1) := by decide +kernel
theorem d_M_wouldLeave_62 : decode prog_7_method_17_code 62 = .ok (.if_icmp .ge 7, 3) := by decide +kernel
theorem d_M_wouldLeave_65 : decode prog_7_method_17_code 65 = .ok (.iconst 1, 1) := by decide +kernel
theorem d_M_wouldLeave_66 : decode prog_7_method_17_code 66 = .ok (.goto 4, 3) := by decide +kernel
theorem d_M_wouldLeave_69 : decode prog_7_method_17_code 69 = .ok (.iconst 0, 1) := by decide +kernel
theorem d_M_wouldLeave_70 : decode prog_7_method_17_code 70 = .ok (.ireturn, 1) := by decide +kernel
theorem d_M_isStable_0 : decode prog_7_method_18_code 0 = .ok (.iconst 1, 1) := by decide +kernel
theorem d_M_isStable_1 : decode prog_7_method_18_code 1 = .ok (.istore_n 2, 1) := by decide +kernel
theorem d_M_isStable_2 : decode prog_7_method_18_code 2 = .ok (.iconst 0, 1) := by decide +kernel
theorem d_M_isStable_3 : decode prog_7_method_18_code 3 = .ok (.istore_n 3, 1) := by decide +kernel
theorem d_M_isStable_4 : decode prog_7_method_18_code 4 = .ok (.iload_n 3, 1) := by decide +kernel
theorem d_M_isStable_5 : decode prog_7_method_18_code 5 = .ok (.aload_n 0, 1) := by decide +kernel
theorem d_M_isStable_6 : decode prog_7_method_18_code 6 = .ok (.getfield 47, 3) := by decide +kernel
theorem d_M_isStable_9 : decode prog_7_method_18_code 9 = .ok (.if_icmp .ge 50, 3) := by decide +kernel
theorem d_M_isStable_12 : decode prog_7_method_18_code 12 = .ok (.iload_n 3, 1) := by decide +kernel
theorem d_M_isStable_13 : decode prog_7_method_18_code 13 = .ok (.iconst 1, 1) := by decide +kernel
theorem d_M_isStable_14 : decode prog_7_method_18_code 14 = .ok (.iadd, 1) := by decide +kernel
theorem d_M_isStable_15 : decode prog_7_method_18_code 15 = .ok (.istore 4, 2) := by decide +kernel
theorem d_M_isStable_17 : decode prog_7_method_18_code 17 = .ok (.iload 4, 2) := by decide +kernel
theorem d_M_isStable_19 : decode prog_7_method_18_code 19 = .ok (.aload_n 0, 1) := by decide +kernel
theorem d_M_isStable_20 : decode prog_7_method_18_code 20 = .ok (.getfield 47, 3) := by decide +kernel
theorem d_M_isStable_23 : decode prog_7_method_18_code 23 = .ok (.if_icmp .ge 30, 3) := by decide +kernel
theorem d_M_isStable_26 : decode prog_7_method_18_code 26 = .ok (.iload_n 2, 1) := by decide +kernel
theorem d_M_isStable_27 : decode prog_7_method_18_code 27 = .ok (.ifCond .eq 18, 3) := by decide +kernel
theorem d_M_isStable_30 : decode prog_7_method_18_code 30 = .ok (.aload_n 0, 1) := by decide +kernel
theorem d_M_isStable_31 : decode prog_7_method_18_code 31 = .ok (.iload_n 3, 1) := by decide +kernel
theorem d_M_isStable_32 : decode prog_7_method_18_code 32 = .ok (.iload 4, 2) := by decide +kernel
theorem d_M_isStable_34 : decode prog_7_method_18_code 34 = .ok (.aload_n 1, 1) := by decide +kernel
theorem d_M_isStable_35 : decode prog_7_method_18_code 35 = .ok (.invokevirtual 76, 3) := by decide +kernel
theorem d_M_isStable_38 : decode prog_7_method_18_code 38 = .ok (.ifCond .ne 7, 3) := by decide +kernel
theorem d_M_isStable_41 : decode prog_7_method_18_code 41 = .ok (.iconst 1, 1) := by decide +kernel
theorem d_M_isStable_42 : decode prog_7_method_18_code 42 = .ok (.goto 4, 3) := by decide +kernel
theorem d_M_isStable_45 : decode prog_7_method_18_code 45 = .ok (.iconst 0, 1) := by decide +kernel
theorem d_M_isStable_46 : decode prog_7_method_18_code 46 = .ok (.istore_n 2, 1) := by decide +kernel
theorem d_M_isStable_47 : decode prog_7_method_18_code 47 = .ok (.iinc 4 1, 3) := by decide +kernel
theorem d_M_isStable_50 : decode prog_7_method_18_code 50 = .ok (.goto (-33), 3) := by decide +kernel
theorem d_M_isStable_53 : decode prog_7_method_18_code 53 = .ok (.iinc 3 1, 3) := by decide +kernel
theorem d_M_isStable_56 : decode prog_7_method_18_code 56 = .ok (.goto (-52), 3) := by decide +kernel
theorem d_M_isStable_59 : decode prog_7_method_18_code 59 = .ok (.iload_n 2, 1) := by decide +kernel
theorem d_M_isStable_60 : decode prog_7_method_18_code 60 = .ok (.ireturn, 1) := by decide +kernel
theorem d_M_blockingOf_0 : decode prog_7_method_19_code 0 = .ok (.iconst 0, 1) := by decide +kernel
theorem d_M_blockingOf_1 : decode prog_7_method_19_code 1 = .ok (.istore_n 2, 1) := by decide +kernel
theorem d_M_blockingOf_2 : decode prog_7_method_19_code 2 = .ok (.iconst 0, 1) := by decide +kernel
theorem d_M_blockingOf_3 : decode prog_7_method_19_code 3 = .ok (.istore_n 3, 1) := by decide +kernel
theorem d_M_blockingOf_4 : decode prog_7_method_19_code 4 = .ok (.iload_n 3, 1) := by decide +kernel
theorem d_M_blockingOf_5 : decode prog_7_method_19_code 5 = .ok (.aload_n 0, 1) := by decide +kernel
theorem d_M_blockingOf_6 : decode prog_7_method_19_code 6 = .ok (.getfield 47, 3) := by decide +kernel
theorem d_M_blockingOf_9 : decode prog_7_method_19_code 9 = .ok (.if_icmp .ge 48, 3) := by decide +kernel
theorem d_M_blockingOf_12 : decode prog_7_method_19_code 12 = .ok (.iload_n 3, 1) := by decide +kernel
theorem d_M_blockingOf_13 : decode prog_7_method_19_code 13 = .ok (.iconst 1, 1) := by decide +kernel
theorem d_M_blockingOf_14 : decode prog_7_method_19_code 14 = .ok (.iadd, 1) := by decide +kernel
theorem d_M_blockingOf_15 : decode prog_7_method_19_code 15 = .ok (.istore 4, 2) := by decide +kernel
theorem d_M_blockingOf_17 : decode prog_7_method_19_code 17 = .ok (.iload 4, 2) := by decide +kernel
theorem d_M_blockingOf_19 : decode prog_7_method_19_code 19 = .ok (.aload_n 0, 1) := by decide +kernel
theorem d_M_blockingOf_20 : decode prog_7_method_19_code 20 = .ok (.getfield 47, 3) := by decide +kernel
theorem d_M_blockingOf_23 : decode prog_7_method_19_code 23 = .ok (.if_icmp .ge 28, 3) := by decide +kernel
theorem d_M_blockingOf_26 : decode prog_7_method_19_code 26 = .ok (.iload_n 2, 1) := by decide +kernel
theorem d_M_blockingOf_27 : decode prog_7_method_19_code 27 = .ok (.aload_n 0, 1) := by decide +kernel
theorem d_M_blockingOf_28 : decode prog_7_method_19_code 28 = .ok (.iload_n 3, 1) := by decide +kernel
theorem d_M_blockingOf_29 : decode prog_7_method_19_code 29 = .ok (.iload 4, 2) := by decide +kernel
theorem d_M_blockingOf_31 : decode prog_7_method_19_code 31 = .ok (.aload_n 1, 1) := by decide +kernel
theorem d_M_blockingOf_32 : decode prog_7_method_19_code 32 = .ok (.invokevirtual 80, 3) := by decide +kernel
theorem d_M_blockingOf_35 : decode prog_7_method_19_code 35 = .ok (.ifCond .eq 7, 3) := by decide +kernel
theorem d_M_blockingOf_38 : decode prog_7_method_19_code 38 = .ok (.iconst 1, 1) := by decide +kernel
theorem d_M_blockingOf_39 : decode prog_7_method_19_code 39 = .ok (.goto 4, 3) := by decide +kernel
theorem d_M_blockingOf_42 : decode prog_7_method_19_code 42 = .ok (.iconst 0, 1) := by decide +kernel
theorem d_M_blockingOf_43 : decode prog_7_method_19_code 43 = .ok (.iadd, 1) := by decide +kernel
theorem d_M_blockingOf_44 : decode prog_7_method_19_code 44 = .ok (.istore_n 2, 1) := by decide +kernel
theorem d_M_blockingOf_45 : decode prog_7_method_19_code 45 = .ok (.iinc 4 1, 3) := by decide +kernel
theorem d_M_blockingOf_48 : decode prog_7_method_19_code 48 = .ok (.goto (-31), 3) := by decide +kernel
theorem d_M_blockingOf_51 : decode prog_7_method_19_code 51 = .ok (.iinc 3 1, 3) := by decide +kernel
theorem d_M_blockingOf_54 : decode prog_7_method_19_code 54 = .ok (.goto (-50), 3) := by decide +kernel
theorem d_M_blockingOf_57 : decode prog_7_method_19_code 57 = .ok (.iload_n 2, 1) := by decide +kernel
theorem d_M_blockingOf_58 : decode prog_7_method_19_code 58 = .ok (.ireturn, 1) := by decide +kernel
theorem d_M_pair_0 : decode prog_7_method_20_code 0 = .ok (.aload_n 0, 1) := by decide +kernel
theorem d_M_pair_1 : decode prog_7_method_20_code 1 = .ok (.aload_n 0, 1) := by decide +kernel
theorem d_M_pair_2 : decode prog_7_method_20_code 2 = .ok (.iload_n 1, 1) := by decide +kernel
theorem d_M_pair_3 : decode prog_7_method_20_code 3 = .ok (.invokevirtual 62, 3) := by decide +kernel
theorem d_M_pair_6 : decode prog_7_method_20_code 6 = .ok (.ifCond .eq 11, 3) := by decide +kernel
theorem d_M_pair_9 : decode prog_7_method_20_code 9 = .ok (.aload_n 0, 1) := by decide +kernel
theorem d_M_pair_10 : decode prog_7_method_20_code 10 = .ok (.iload_n 2, 1) := by decide +kernel
theorem d_M_pair_11 : decode prog_7_method_20_code 11 = .ok (.invokevirtual 62, 3) := by decide +kernel
theorem d_M_pair_14 : decode prog_7_method_20_code 14 = .ok (.ifCond .ne 7, 3) := by decide +kernel
theorem d_M_pair_17 : decode prog_7_method_20_code 17 = .ok (.iconst 1, 1) := by decide +kernel
theorem d_M_pair_18 : decode prog_7_method_20_code 18 = .ok (.goto 26, 3) := by decide +kernel
theorem d_M_pair_21 : decode prog_7_method_20_code 21 = .ok (.iload_n 1, 1) := by decide +kernel
theorem d_M_pair_22 : decode prog_7_method_20_code 22 = .ok (.iload_n 2, 1) := by decide +kernel
theorem d_M_pair_23 : decode prog_7_method_20_code 23 = .ok (.if_icmp .ne 7, 3) := by decide +kernel
theorem d_M_pair_26 : decode prog_7_method_20_code 26 = .ok (.iconst 2, 1) := by decide +kernel
theorem d_M_pair_27 : decode prog_7_method_20_code 27 = .ok (.goto 17, 3) := by decide +kernel
theorem d_M_pair_30 : decode prog_7_method_20_code 30 = .ok (.aload_n 0, 1) := by decide +kernel
theorem d_M_pair_31 : decode prog_7_method_20_code 31 = .ok (.iload_n 1, 1) := by decide +kernel
theorem d_M_pair_32 : decode prog_7_method_20_code 32 = .ok (.iload_n 2, 1) := by decide +kernel
theorem d_M_pair_33 : decode prog_7_method_20_code 33 = .ok (.invokevirtual 54, 3) := by decide +kernel
theorem d_M_pair_36 : decode prog_7_method_20_code 36 = .ok (.ifCond .ne 7, 3) := by decide +kernel
theorem d_M_pair_39 : decode prog_7_method_20_code 39 = .ok (.iconst 3, 1) := by decide +kernel
theorem d_M_pair_40 : decode prog_7_method_20_code 40 = .ok (.goto 4, 3) := by decide +kernel
theorem d_M_pair_43 : decode prog_7_method_20_code 43 = .ok (.iconst 0, 1) := by decide +kernel
theorem d_M_pair_44 : decode prog_7_method_20_code 44 = .ok (.putfield 43, 3) := by decide +kernel
theorem d_M_pair_47 : decode prog_7_method_20_code 47 = .ok (.aload_n 0, 1) := by decide +kernel
theorem d_M_pair_48 : decode prog_7_method_20_code 48 = .ok (.getfield 43, 3) := by decide +kernel
theorem d_M_pair_51 : decode prog_7_method_20_code 51 = .ok (.ifCond .le 5, 3) := by decide +kernel
theorem d_M_pair_54 : decode prog_7_method_20_code 54 = .ok (.iconst 0, 1) := by decide +kernel
theorem d_M_pair_55 : decode prog_7_method_20_code 55 = .ok (.ireturn, 1) := by decide +kernel
theorem d_M_pair_56 : decode prog_7_method_20_code 56 = .ok (.aload_n 0, 1) := by decide +kernel
theorem d_M_pair_57 : decode prog_7_method_20_code 57 = .ok (.iload_n 1, 1) := by decide +kernel
theorem d_M_pair_58 : decode prog_7_method_20_code 58 = .ok (.iload_n 2, 1) := by decide +kernel
theorem d_M_pair_59 : decode prog_7_method_20_code 59 = .ok (.invokevirtual 83, 3) := by decide +kernel
theorem d_M_pair_62 : decode prog_7_method_20_code 62 = .ok (.aload_n 0, 1) := by decide +kernel
theorem d_M_pair_63 : decode prog_7_method_20_code 63 = .ok (.aload_n 0, 1) := by decide +kernel
theorem d_M_pair_64 : decode prog_7_method_20_code 64 = .ok (.getfield 16, 3) := by decide +kernel
theorem d_M_pair_67 : decode prog_7_method_20_code 67 = .ok (.invokevirtual 87, 3) := by decide +kernel
theorem d_M_pair_70 : decode prog_7_method_20_code 70 = .ok (.ireturn, 1) := by decide +kernel
theorem d_M_partner_0 : decode prog_7_method_21_code 0 = .ok (.aload_n 0, 1) := by decide +kernel
theorem d_M_partner_1 : decode prog_7_method_21_code 1 = .ok (.aload_n 0, 1) := by decide +kernel
theorem d_M_partner_2 : decode prog_7_method_21_code 2 = .ok (.iload_n 1, 1) := by decide +kernel
theorem d_M_partner_3 : decode prog_7_method_21_code 3 = .ok (.invokevirtual 62, 3) := by decide +kernel
theorem d_M_partner_6 : decode prog_7_method_21_code 6 = .ok (.ifCond .eq 7, 3) := by decide +kernel
theorem d_M_partner_9 : decode prog_7_method_21_code 9 = .ok (.iconst 0, 1) := by decide +kernel
theorem d_M_partner_10 : decode prog_7_method_21_code 10 = .ok (.goto 4, 3) := by decide +kernel
theorem d_M_partner_13 : decode prog_7_method_21_code 13 = .ok (.iconst 1, 1) := by decide +kernel
theorem d_M_partner_14 : decode prog_7_method_21_code 14 = .ok (.putfield 43, 3) := by decide +kernel
theorem d_M_partner_17 : decode prog_7_method_21_code 17 = .ok (.aload_n 0, 1) := by decide +kernel
theorem d_M_partner_18 : decode prog_7_method_21_code 18 = .ok (.getfield 43, 3) := by decide +kernel
theorem d_M_partner_21 : decode prog_7_method_21_code 21 = .ok (.ifCond .le 7, 3) := by decide +kernel
end
section
/-! what stands where: M -/
theorem d_M_partner_24 : decode prog_7_method_21_code 24 = .ok (.iconst 0, 1) := by decide +kernel
theorem d_M_partner_25 : decode prog_7_method_21_code 25 = .ok (.goto 9, 3) := by decide +kernel
theorem d_M_partner_28 : decode prog_7_method_21_code 28 = .ok (.aload_n 0, 1) := by decide +kernel
theorem d_M_partner_29 : decode prog_7_method_21_code 29 = .ok (.getfield 16, 3) := by decide +kernel
theorem d_M_partner_32 : decode prog_7_method_21_code 32 = .ok (.iload_n 1, 1) := by decide +kernel
theorem d_M_partner_33 : decode prog_7_method_21_code 33 = .ok (.iaload, 1) := by decide +kernel
theorem d_M_partner_34 : decode prog_7_method_21_code 34 = .ok (.ireturn, 1) := by decide +kernel
theorem d_M_blocking_0 : decode prog_7_method_22_code 0 = .ok (.aload_n 0, 1) := by decide +kernel
theorem d_M_blocking_1 : decode prog_7_method_22_code 1 = .ok (.iconst 0, 1) := by decide +kernel
theorem d_M_blocking_2 : decode prog_7_method_22_code 2 = .ok (.putfield 43, 3) := by decide +kernel
theorem d_M_blocking_5 : decode prog_7_method_22_code 5 = .ok (.aload_n 0, 1) := by decide +kernel
theorem d_M_blocking_6 : decode prog_7_method_22_code 6 = .ok (.aload_n 0, 1) := by decide +kernel
theorem d_M_blocking_7 : decode prog_7_method_22_code 7 = .ok (.getfield 16, 3) := by decide +kernel
theorem d_M_blocking_10 : decode prog_7_method_22_code 10 = .ok (.invokevirtual 87, 3) := by decide +kernel
theorem d_M_blocking_13 : decode prog_7_method_22_code 13 = .ok (.ireturn, 1) := by decide +kernel
theorem d_M_satisfy_0 : decode prog_7_method_23_code 0 = .ok (.aload_n 0, 1) := by decide +kernel
theorem d_M_satisfy_1 : decode prog_7_method_23_code 1 = .ok (.iconst 0, 1) := by decide +kernel
theorem d_M_satisfy_2 : decode prog_7_method_23_code 2 = .ok (.putfield 43, 3) := by decide +kernel
theorem d_M_satisfy_5 : decode prog_7_method_23_code 5 = .ok (.iconst 0, 1) := by decide +kernel
theorem d_M_satisfy_6 : decode prog_7_method_23_code 6 = .ok (.istore_n 1, 1) := by decide +kernel
theorem d_M_satisfy_7 : decode prog_7_method_23_code 7 = .ok (.iload_n 1, 1) := by decide +kernel
theorem d_M_satisfy_8 : decode prog_7_method_23_code 8 = .ok (.aload_n 0, 1) := by decide +kernel
theorem d_M_satisfy_9 : decode prog_7_method_23_code 9 = .ok (.getfield 47, 3) := by decide +kernel
theorem d_M_satisfy_12 : decode prog_7_method_23_code 12 = .ok (.if_icmp .ge 53, 3) := by decide +kernel
theorem d_M_satisfy_15 : decode prog_7_method_23_code 15 = .ok (.iload_n 1, 1) := by decide +kernel
theorem d_M_satisfy_16 : decode prog_7_method_23_code 16 = .ok (.iconst 1, 1) := by decide +kernel
theorem d_M_satisfy_17 : decode prog_7_method_23_code 17 = .ok (.iadd, 1) := by decide +kernel
theorem d_M_satisfy_18 : decode prog_7_method_23_code 18 = .ok (.istore_n 2, 1) := by decide +kernel
theorem d_M_satisfy_19 : decode prog_7_method_23_code 19 = .ok (.iload_n 2, 1) := by decide +kernel
theorem d_M_satisfy_20 : decode prog_7_method_23_code 20 = .ok (.aload_n 0, 1) := by decide +kernel
theorem d_M_satisfy_21 : decode prog_7_method_23_code 21 = .ok (.getfield 47, 3) := by decide +kernel
theorem d_M_satisfy_24 : decode prog_7_method_23_code 24 = .ok (.if_icmp .ge 35, 3) := by decide +kernel
theorem d_M_satisfy_27 : decode prog_7_method_23_code 27 = .ok (.aload_n 0, 1) := by decide +kernel
theorem d_M_satisfy_28 : decode prog_7_method_23_code 28 = .ok (.iload_n 1, 1) := by decide +kernel
theorem d_M_satisfy_29 : decode prog_7_method_23_code 29 = .ok (.iload_n 2, 1) := by decide +kernel
theorem d_M_satisfy_30 : decode prog_7_method_23_code 30 = .ok (.aload_n 0, 1) := by decide +kernel
theorem d_M_satisfy_31 : decode prog_7_method_23_code 31 = .ok (.getfield 16, 3) := by decide +kernel
theorem d_M_satisfy_34 : decode prog_7_method_23_code 34 = .ok (.invokevirtual 80, 3) := by decide +kernel
theorem d_M_satisfy_37 : decode prog_7_method_23_code 37 = .ok (.ifCond .eq 16, 3) := by decide +kernel
theorem d_M_satisfy_40 : decode prog_7_method_23_code 40 = .ok (.aload_n 0, 1) := by decide +kernel
theorem d_M_satisfy_41 : decode prog_7_method_23_code 41 = .ok (.iload_n 1, 1) := by decide +kernel
theorem d_M_satisfy_42 : decode prog_7_method_23_code 42 = .ok (.iload_n 2, 1) := by decide +kernel
theorem d_M_satisfy_43 : decode prog_7_method_23_code 43 = .ok (.invokevirtual 83, 3) := by decide +kernel
theorem d_M_satisfy_46 : decode prog_7_method_23_code 46 = .ok (.bipush 8, 2) := by decide +kernel
theorem d_M_satisfy_48 : decode prog_7_method_23_code 48 = .ok (.iload_n 1, 1) := by decide +kernel
theorem d_M_satisfy_49 : decode prog_7_method_23_code 49 = .ok (.imul, 1) := by decide +kernel
theorem d_M_satisfy_50 : decode prog_7_method_23_code 50 = .ok (.iload_n 2, 1) := by decide +kernel
theorem d_M_satisfy_51 : decode prog_7_method_23_code 51 = .ok (.iadd, 1) := by decide +kernel
theorem d_M_satisfy_52 : decode prog_7_method_23_code 52 = .ok (.ireturn, 1) := by decide +kernel
theorem d_M_satisfy_53 : decode prog_7_method_23_code 53 = .ok (.iinc 2 1, 3) := by decide +kernel
theorem d_M_satisfy_56 : decode prog_7_method_23_code 56 = .ok (.goto (-37), 3) := by decide +kernel
theorem d_M_satisfy_59 : decode prog_7_method_23_code 59 = .ok (.iinc 1 1, 3) := by decide +kernel
theorem d_M_satisfy_62 : decode prog_7_method_23_code 62 = .ok (.goto (-55), 3) := by decide +kernel
theorem d_M_satisfy_65 : decode prog_7_method_23_code 65 = .ok (.iconst (-1), 1) := by decide +kernel
theorem d_M_satisfy_66 : decode prog_7_method_23_code 66 = .ok (.ireturn, 1) := by decide +kernel
theorem d_M_chosen_0 : decode prog_7_method_24_code 0 = .ok (.iload_n 2, 1) := by decide +kernel
theorem d_M_chosen_1 : decode prog_7_method_24_code 1 = .ok (.aload_n 0, 1) := by decide +kernel
theorem d_M_chosen_2 : decode prog_7_method_24_code 2 = .ok (.getfield 7, 3) := by decide +kernel
theorem d_M_chosen_5 : decode prog_7_method_24_code 5 = .ok (.iload_n 1, 1) := by decide +kernel
theorem d_M_chosen_6 : decode prog_7_method_24_code 6 = .ok (.iaload, 1) := by decide +kernel
theorem d_M_chosen_7 : decode prog_7_method_24_code 7 = .ok (.if_icmp .ge 17, 3) := by decide +kernel
theorem d_M_chosen_10 : decode prog_7_method_24_code 10 = .ok (.aload_n 0, 1) := by decide +kernel
theorem d_M_chosen_11 : decode prog_7_method_24_code 11 = .ok (.getfield 13, 3) := by decide +kernel
theorem d_M_chosen_14 : decode prog_7_method_24_code 14 = .ok (.bipush 8, 2) := by decide +kernel
theorem d_M_chosen_16 : decode prog_7_method_24_code 16 = .ok (.iload_n 1, 1) := by decide +kernel
theorem d_M_chosen_17 : decode prog_7_method_24_code 17 = .ok (.imul, 1) := by decide +kernel
theorem d_M_chosen_18 : decode prog_7_method_24_code 18 = .ok (.iload_n 2, 1) := by decide +kernel
theorem d_M_chosen_19 : decode prog_7_method_24_code 19 = .ok (.iadd, 1) := by decide +kernel
theorem d_M_chosen_20 : decode prog_7_method_24_code 20 = .ok (.iaload, 1) := by decide +kernel
theorem d_M_chosen_21 : decode prog_7_method_24_code 21 = .ok (.goto 4, 3) := by decide +kernel
theorem d_M_chosen_24 : decode prog_7_method_24_code 24 = .ok (.iload_n 1, 1) := by decide +kernel
theorem d_M_chosen_25 : decode prog_7_method_24_code 25 = .ok (.ireturn, 1) := by decide +kernel
theorem d_M_nextChoice_0 : decode prog_7_method_25_code 0 = .ok (.iload_n 2, 1) := by decide +kernel
theorem d_M_nextChoice_1 : decode prog_7_method_25_code 1 = .ok (.istore 4, 2) := by decide +kernel
theorem d_M_nextChoice_3 : decode prog_7_method_25_code 3 = .ok (.iload 4, 2) := by decide +kernel
theorem d_M_nextChoice_5 : decode prog_7_method_25_code 5 = .ok (.aload_n 0, 1) := by decide +kernel
theorem d_M_nextChoice_6 : decode prog_7_method_25_code 6 = .ok (.getfield 7, 3) := by decide +kernel
theorem d_M_nextChoice_9 : decode prog_7_method_25_code 9 = .ok (.iload_n 1, 1) := by decide +kernel
theorem d_M_nextChoice_10 : decode prog_7_method_25_code 10 = .ok (.iaload, 1) := by decide +kernel
theorem d_M_nextChoice_11 : decode prog_7_method_25_code 11 = .ok (.if_icmp .gt 25, 3) := by decide +kernel
theorem d_M_nextChoice_14 : decode prog_7_method_25_code 14 = .ok (.aload_n 0, 1) := by decide +kernel
theorem d_M_nextChoice_15 : decode prog_7_method_25_code 15 = .ok (.iload_n 1, 1) := by decide +kernel
theorem d_M_nextChoice_16 : decode prog_7_method_25_code 16 = .ok (.aload_n 0, 1) := by decide +kernel
theorem d_M_nextChoice_17 : decode prog_7_method_25_code 17 = .ok (.iload_n 1, 1) := by decide +kernel
theorem d_M_nextChoice_18 : decode prog_7_method_25_code 18 = .ok (.iload 4, 2) := by decide +kernel
theorem d_M_nextChoice_20 : decode prog_7_method_25_code 20 = .ok (.invokevirtual 91, 3) := by decide +kernel
theorem d_M_nextChoice_23 : decode prog_7_method_25_code 23 = .ok (.iload_n 3, 1) := by decide +kernel
theorem d_M_nextChoice_24 : decode prog_7_method_25_code 24 = .ok (.invokevirtual 94, 3) := by decide +kernel
theorem d_M_nextChoice_27 : decode prog_7_method_25_code 27 = .ok (.ifCond .ne 9, 3) := by decide +kernel
theorem d_M_nextChoice_30 : decode prog_7_method_25_code 30 = .ok (.iinc 4 1, 3) := by decide +kernel
theorem d_M_nextChoice_33 : decode prog_7_method_25_code 33 = .ok (.goto (-30), 3) := by decide +kernel
theorem d_M_nextChoice_36 : decode prog_7_method_25_code 36 = .ok (.iload 4, 2) := by decide +kernel
theorem d_M_nextChoice_38 : decode prog_7_method_25_code 38 = .ok (.ireturn, 1) := by decide +kernel
theorem d_M_goes_0 : decode prog_7_method_26_code 0 = .ok (.aload_n 0, 1) := by decide +kernel
theorem d_M_goes_1 : decode prog_7_method_26_code 1 = .ok (.getfield 40, 3) := by decide +kernel
theorem d_M_goes_4 : decode prog_7_method_26_code 4 = .ok (.bipush 8, 2) := by decide +kernel
theorem d_M_goes_6 : decode prog_7_method_26_code 6 = .ok (.iload_n 1, 1) := by decide +kernel
theorem d_M_goes_7 : decode prog_7_method_26_code 7 = .ok (.imul, 1) := by decide +kernel
theorem d_M_goes_8 : decode prog_7_method_26_code 8 = .ok (.iload_n 2, 1) := by decide +kernel
theorem d_M_goes_9 : decode prog_7_method_26_code 9 = .ok (.iadd, 1) := by decide +kernel
theorem d_M_goes_10 : decode prog_7_method_26_code 10 = .ok (.iaload, 1) := by decide +kernel
theorem d_M_goes_11 : decode prog_7_method_26_code 11 = .ok (.bipush 50, 2) := by decide +kernel
theorem d_M_goes_13 : decode prog_7_method_26_code 13 = .ok (.if_icmp .le 5, 3) := by decide +kernel
theorem d_M_goes_16 : decode prog_7_method_26_code 16 = .ok (.iconst 0, 1) := by decide +kernel
theorem d_M_goes_17 : decode prog_7_method_26_code 17 = .ok (.ireturn, 1) := by decide +kernel
theorem d_M_goes_18 : decode prog_7_method_26_code 18 = .ok (.iconst 1, 1) := by decide +kernel
theorem d_M_goes_19 : decode prog_7_method_26_code 19 = .ok (.istore 4, 2) := by decide +kernel
theorem d_M_goes_21 : decode prog_7_method_26_code 21 = .ok (.iconst 0, 1) := by decide +kernel
theorem d_M_goes_22 : decode prog_7_method_26_code 22 = .ok (.istore 5, 2) := by decide +kernel
theorem d_M_goes_24 : decode prog_7_method_26_code 24 = .ok (.iload 5, 2) := by decide +kernel
theorem d_M_goes_26 : decode prog_7_method_26_code 26 = .ok (.iload_n 1, 1) := by decide +kernel
theorem d_M_goes_27 : decode prog_7_method_26_code 27 = .ok (.if_icmp .ge 139, 3) := by decide +kernel
theorem d_M_goes_30 : decode prog_7_method_26_code 30 = .ok (.iload 4, 2) := by decide +kernel
theorem d_M_goes_32 : decode prog_7_method_26_code 32 = .ok (.ifCond .eq 72, 3) := by decide +kernel
theorem d_M_goes_35 : decode prog_7_method_26_code 35 = .ok (.iload_n 3, 1) := by decide +kernel
theorem d_M_goes_36 : decode prog_7_method_26_code 36 = .ok (.ifCond .eq 53, 3) := by decide +kernel
theorem d_M_goes_39 : decode prog_7_method_26_code 39 = .ok (.aload_n 0, 1) := by decide +kernel
theorem d_M_goes_40 : decode prog_7_method_26_code 40 = .ok (.getfield 31, 3) := by decide +kernel
theorem d_M_goes_43 : decode prog_7_method_26_code 43 = .ok (.iload 5, 2) := by decide +kernel
theorem d_M_goes_45 : decode prog_7_method_26_code 45 = .ok (.iaload, 1) := by decide +kernel
theorem d_M_goes_46 : decode prog_7_method_26_code 46 = .ok (.iload_n 1, 1) := by decide +kernel
theorem d_M_goes_47 : decode prog_7_method_26_code 47 = .ok (.if_icmp .ne 7, 3) := by decide +kernel
theorem d_M_goes_50 : decode prog_7_method_26_code 50 = .ok (.iconst 1, 1) := by decide +kernel
theorem d_M_goes_51 : decode prog_7_method_26_code 51 = .ok (.goto 4, 3) := by decide +kernel
theorem d_M_goes_54 : decode prog_7_method_26_code 54 = .ok (.iconst 0, 1) := by decide +kernel
theorem d_M_goes_55 : decode prog_7_method_26_code 55 = .ok (.iload_n 2, 1) := by decide +kernel
theorem d_M_goes_56 : decode prog_7_method_26_code 56 = .ok (.iload 5, 2) := by decide +kernel
theorem d_M_goes_58 : decode prog_7_method_26_code 58 = .ok (.if_icmp .ne 7, 3) := by decide +kernel
theorem d_M_goes_61 : decode prog_7_method_26_code 61 = .ok (.iconst 1, 1) := by decide +kernel
theorem d_M_goes_62 : decode prog_7_method_26_code 62 = .ok (.goto 4, 3) := by decide +kernel
theorem d_M_goes_65 : decode prog_7_method_26_code 65 = .ok (.iconst 0, 1) := by decide +kernel
theorem d_M_goes_66 : decode prog_7_method_26_code 66 = .ok (.if_icmp .ne 38, 3) := by decide +kernel
theorem d_M_goes_69 : decode prog_7_method_26_code 69 = .ok (.aload_n 0, 1) := by decide +kernel
theorem d_M_goes_70 : decode prog_7_method_26_code 70 = .ok (.getfield 31, 3) := by decide +kernel
theorem d_M_goes_73 : decode prog_7_method_26_code 73 = .ok (.iload 5, 2) := by decide +kernel
theorem d_M_goes_75 : decode prog_7_method_26_code 75 = .ok (.iaload, 1) := by decide +kernel
theorem d_M_goes_76 : decode prog_7_method_26_code 76 = .ok (.iload_n 2, 1) := by decide +kernel
theorem d_M_goes_77 : decode prog_7_method_26_code 77 = .ok (.if_icmp .ne 23, 3) := by decide +kernel
theorem d_M_goes_80 : decode prog_7_method_26_code 80 = .ok (.iload 5, 2) := by decide +kernel
theorem d_M_goes_82 : decode prog_7_method_26_code 82 = .ok (.iload_n 2, 1) := by decide +kernel
theorem d_M_goes_83 : decode prog_7_method_26_code 83 = .ok (.if_icmp .ne 21, 3) := by decide +kernel
theorem d_M_goes_86 : decode prog_7_method_26_code 86 = .ok (.goto 14, 3) := by decide +kernel
theorem d_M_goes_89 : decode prog_7_method_26_code 89 = .ok (.aload_n 0, 1) := by decide +kernel
theorem d_M_goes_90 : decode prog_7_method_26_code 90 = .ok (.getfield 31, 3) := by decide +kernel
theorem d_M_goes_93 : decode prog_7_method_26_code 93 = .ok (.iload 5, 2) := by decide +kernel
theorem d_M_goes_95 : decode prog_7_method_26_code 95 = .ok (.iaload, 1) := by decide +kernel
theorem d_M_goes_96 : decode prog_7_method_26_code 96 = .ok (.iload_n 2, 1) := by decide +kernel
theorem d_M_goes_97 : decode prog_7_method_26_code 97 = .ok (.if_icmp .eq 7, 3) := by decide +kernel
theorem d_M_goes_100 : decode prog_7_method_26_code 100 = .ok (.iconst 1, 1) := by decide +kernel
theorem d_M_goes_101 : decode prog_7_method_26_code 101 = .ok (.goto 4, 3) := by decide +kernel
theorem d_M_goes_104 : decode prog_7_method_26_code 104 = .ok (.iconst 0, 1) := by decide +kernel
theorem d_M_goes_105 : decode prog_7_method_26_code 105 = .ok (.istore 4, 2) := by decide +kernel
theorem d_M_goes_107 : decode prog_7_method_26_code 107 = .ok (.iload 4, 2) := by decide +kernel
theorem d_M_goes_109 : decode prog_7_method_26_code 109 = .ok (.ifCond .eq 48, 3) := by decide +kernel
theorem d_M_goes_112 : decode prog_7_method_26_code 112 = .ok (.iload_n 3, 1) := by decide +kernel
theorem d_M_goes_113 : decode prog_7_method_26_code 113 = .ok (.ifCond .ne 40, 3) := by decide +kernel
theorem d_M_goes_116 : decode prog_7_method_26_code 116 = .ok (.aload_n 0, 1) := by decide +kernel
theorem d_M_goes_117 : decode prog_7_method_26_code 117 = .ok (.getfield 31, 3) := by decide +kernel
theorem d_M_goes_120 : decode prog_7_method_26_code 120 = .ok (.iload 5, 2) := by decide +kernel
theorem d_M_goes_122 : decode prog_7_method_26_code 122 = .ok (.iaload, 1) := by decide +kernel
theorem d_M_goes_123 : decode prog_7_method_26_code 123 = .ok (.iload_n 1, 1) := by decide +kernel
theorem d_M_goes_124 : decode prog_7_method_26_code 124 = .ok (.if_icmp .ne 29, 3) := by decide +kernel
theorem d_M_goes_127 : decode prog_7_method_26_code 127 = .ok (.aload_n 0, 1) := by decide +kernel
theorem d_M_goes_128 : decode prog_7_method_26_code 128 = .ok (.getfield 40, 3) := by decide +kernel
theorem d_M_goes_131 : decode prog_7_method_26_code 131 = .ok (.bipush 8, 2) := by decide +kernel
theorem d_M_goes_133 : decode prog_7_method_26_code 133 = .ok (.iload_n 1, 1) := by decide +kernel
theorem d_M_goes_134 : decode prog_7_method_26_code 134 = .ok (.imul, 1) := by decide +kernel
theorem d_M_goes_135 : decode prog_7_method_26_code 135 = .ok (.iload 5, 2) := by decide +kernel
theorem d_M_goes_137 : decode prog_7_method_26_code 137 = .ok (.iadd, 1) := by decide +kernel
theorem d_M_goes_138 : decode prog_7_method_26_code 138 = .ok (.iaload, 1) := by decide +kernel
theorem d_M_goes_139 : decode prog_7_method_26_code 139 = .ok (.aload_n 0, 1) := by decide +kernel
theorem d_M_goes_140 : decode prog_7_method_26_code 140 = .ok (.getfield 40, 3) := by decide +kernel
theorem d_M_goes_143 : decode prog_7_method_26_code 143 = .ok (.bipush 8, 2) := by decide +kernel
theorem d_M_goes_145 : decode prog_7_method_26_code 145 = .ok (.iload_n 1, 1) := by decide +kernel
theorem d_M_goes_146 : decode prog_7_method_26_code 146 = .ok (.imul, 1) := by decide +kernel
theorem d_M_goes_147 : decode prog_7_method_26_code 147 = .ok (.iload_n 2, 1) := by decide +kernel
theorem d_M_goes_148 : decode prog_7_method_26_code 148 = .ok (.iadd, 1) := by decide +kernel
theorem d_M_goes_149 : decode prog_7_method_26_code 149 = .ok (.iaload, 1) := by decide +kernel
theorem d_M_goes_150 : decode prog_7_method_26_code 150 = .ok (.if_icmp .lt 7, 3) := by decide +kernel
theorem d_M_goes_153 : decode prog_7_method_26_code 153 = .ok (.iconst 1, 1) := by decide +kernel
theorem d_M_goes_154 : decode prog_7_method_26_code 154 = .ok (.goto 4, 3) := by decide +kernel
theorem d_M_goes_157 : decode prog_7_method_26_code 157 = .ok (.iconst 0, 1) := by decide +kernel
theorem d_M_goes_158 : decode prog_7_method_26_code 158 = .ok (.istore 4, 2) := by decide +kernel
theorem d_M_goes_160 : decode prog_7_method_26_code 160 = .ok (.iinc 5 1, 3) := by decide +kernel
theorem d_M_goes_163 : decode prog_7_method_26_code 163 = .ok (.goto (-139), 3) := by decide +kernel
theorem d_M_goes_166 : decode prog_7_method_26_code 166 = .ok (.iload 4, 2) := by decide +kernel
theorem d_M_goes_168 : decode prog_7_method_26_code 168 = .ok (.ifCond .eq 46, 3) := by decide +kernel
theorem d_M_goes_171 : decode prog_7_method_26_code 171 = .ok (.iload_n 3, 1) := by decide +kernel
theorem d_M_goes_172 : decode prog_7_method_26_code 172 = .ok (.ifCond .ne 38, 3) := by decide +kernel
theorem d_M_goes_175 : decode prog_7_method_26_code 175 = .ok (.iload_n 2, 1) := by decide +kernel
theorem d_M_goes_176 : decode prog_7_method_26_code 176 = .ok (.iload_n 1, 1) := by decide +kernel
theorem d_M_goes_177 : decode prog_7_method_26_code 177 = .ok (.if_icmp .ge 33, 3) := by decide +kernel
theorem d_M_goes_180 : decode prog_7_method_26_code 180 = .ok (.aload_n 0, 1) := by decide +kernel
theorem d_M_goes_181 : decode prog_7_method_26_code 181 = .ok (.getfield 40, 3) := by decide +kernel
theorem d_M_goes_184 : decode prog_7_method_26_code 184 = .ok (.bipush 8, 2) := by decide +kernel
theorem d_M_goes_186 : decode prog_7_method_26_code 186 = .ok (.iload_n 2, 1) := by decide +kernel
theorem d_M_goes_187 : decode prog_7_method_26_code 187 = .ok (.imul, 1) := by decide +kernel
theorem d_M_goes_188 : decode prog_7_method_26_code 188 = .ok (.iload_n 1, 1) := by decide +kernel
theorem d_M_goes_189 : decode prog_7_method_26_code 189 = .ok (.iadd, 1) := by decide +kernel
theorem d_M_goes_190 : decode prog_7_method_26_code 190 = .ok (.iaload, 1) := by decide +kernel
theorem d_M_goes_191 : decode prog_7_method_26_code 191 = .ok (.aload_n 0, 1) := by decide +kernel
theorem d_M_goes_192 : decode prog_7_method_26_code 192 = .ok (.getfield 40, 3) := by decide +kernel
theorem d_M_goes_195 : decode prog_7_method_26_code 195 = .ok (.bipush 8, 2) := by decide +kernel
theorem d_M_goes_197 : decode prog_7_method_26_code 197 = .ok (.iload_n 2, 1) := by decide +kernel
theorem d_M_goes_198 : decode prog_7_method_26_code 198 = .ok (.imul, 1) := by decide +kernel
theorem d_M_goes_199 : decode prog_7_method_26_code 199 = .ok (.aload_n 0, 1) := by decide +kernel
theorem d_M_goes_200 : decode prog_7_method_26_code 200 = .ok (.getfield 31, 3) := by decide +kernel
theorem d_M_goes_203 : decode prog_7_method_26_code 203 = .ok (.iload_n 2, 1) := by decide +kernel
theorem d_M_goes_204 : decode prog_7_method_26_code 204 = .ok (.iaload, 1) := by decide +kernel
theorem d_M_goes_205 : decode prog_7_method_26_code 205 = .ok (.iadd, 1) := by decide +kernel
theorem d_M_goes_206 : decode prog_7_method_26_code 206 = .ok (.iaload, 1) := by decide +kernel
theorem d_M_goes_207 : decode prog_7_method_26_code 207 = .ok (.if_icmp .lt 7, 3) := by decide +kernel
theorem d_M_goes_210 : decode prog_7_method_26_code 210 = .ok (.iconst 1, 1) := by decide +kernel
theorem d_M_goes_211 : decode prog_7_method_26_code 211 = .ok (.goto 4, 3) := by decide +kernel
theorem d_M_goes_214 : decode prog_7_method_26_code 214 = .ok (.iconst 0, 1) := by decide +kernel
theorem d_M_goes_215 : decode prog_7_method_26_code 215 = .ok (.istore 4, 2) := by decide +kernel
theorem d_M_goes_217 : decode prog_7_method_26_code 217 = .ok (.iload 4, 2) := by decide +kernel
theorem d_M_goes_219 : decode prog_7_method_26_code 219 = .ok (.ifCond .eq 29, 3) := by decide +kernel
theorem d_M_goes_222 : decode prog_7_method_26_code 222 = .ok (.aload_n 0, 1) := by decide +kernel
theorem d_M_goes_223 : decode prog_7_method_26_code 223 = .ok (.iload_n 2, 1) := by decide +kernel
theorem d_M_goes_224 : decode prog_7_method_26_code 224 = .ok (.iload_n 1, 1) := by decide +kernel
theorem d_M_goes_225 : decode prog_7_method_26_code 225 = .ok (.invokevirtual 98, 3) := by decide +kernel
theorem d_M_goes_228 : decode prog_7_method_26_code 228 = .ok (.ifCond .eq 20, 3) := by decide +kernel
theorem d_M_goes_231 : decode prog_7_method_26_code 231 = .ok (.iload_n 3, 1) := by decide +kernel
theorem d_M_goes_232 : decode prog_7_method_26_code 232 = .ok (.ifCond .eq 12, 3) := by decide +kernel
theorem d_M_goes_235 : decode prog_7_method_26_code 235 = .ok (.aload_n 0, 1) := by decide +kernel
theorem d_M_goes_236 : decode prog_7_method_26_code 236 = .ok (.iload_n 1, 1) := by decide +kernel
theorem d_M_goes_237 : decode prog_7_method_26_code 237 = .ok (.iload_n 2, 1) := by decide +kernel
theorem d_M_goes_238 : decode prog_7_method_26_code 238 = .ok (.invokevirtual 98, 3) := by decide +kernel
theorem d_M_goes_241 : decode prog_7_method_26_code 241 = .ok (.ifCond .eq 7, 3) := by decide +kernel
theorem d_M_goes_244 : decode prog_7_method_26_code 244 = .ok (.iconst 1, 1) := by decide +kernel
theorem d_M_goes_245 : decode prog_7_method_26_code 245 = .ok (.goto 4, 3) := by decide +kernel
theorem d_M_goes_248 : decode prog_7_method_26_code 248 = .ok (.iconst 0, 1) := by decide +kernel
theorem d_M_goes_249 : decode prog_7_method_26_code 249 = .ok (.ireturn, 1) := by decide +kernel
theorem d_M_mayStay_0 : decode prog_7_method_27_code 0 = .ok (.iconst 1, 1) := by decide +kernel
theorem d_M_mayStay_1 : decode prog_7_method_27_code 1 = .ok (.istore_n 3, 1) := by decide +kernel
theorem d_M_mayStay_2 : decode prog_7_method_27_code 2 = .ok (.iconst 0, 1) := by decide +kernel
theorem d_M_mayStay_3 : decode prog_7_method_27_code 3 = .ok (.istore 4, 2) := by decide +kernel
theorem d_M_mayStay_5 : decode prog_7_method_27_code 5 = .ok (.iload 4, 2) := by decide +kernel
theorem d_M_mayStay_7 : decode prog_7_method_27_code 7 = .ok (.aload_n 0, 1) := by decide +kernel
theorem d_M_mayStay_8 : decode prog_7_method_27_code 8 = .ok (.getfield 47, 3) := by decide +kernel
theorem d_M_mayStay_11 : decode prog_7_method_27_code 11 = .ok (.if_icmp .ge 117, 3) := by decide +kernel
theorem d_M_mayStay_14 : decode prog_7_method_27_code 14 = .ok (.aload_n 0, 1) := by decide +kernel
theorem d_M_mayStay_15 : decode prog_7_method_27_code 15 = .ok (.getfield 40, 3) := by decide +kernel
theorem d_M_mayStay_18 : decode prog_7_method_27_code 18 = .ok (.bipush 8, 2) := by decide +kernel
theorem d_M_mayStay_20 : decode prog_7_method_27_code 20 = .ok (.iload_n 1, 1) := by decide +kernel
theorem d_M_mayStay_21 : decode prog_7_method_27_code 21 = .ok (.imul, 1) := by decide +kernel
theorem d_M_mayStay_22 : decode prog_7_method_27_code 22 = .ok (.iload 4, 2) := by decide +kernel
theorem d_M_mayStay_24 : decode prog_7_method_27_code 24 = .ok (.iadd, 1) := by decide +kernel
theorem d_M_mayStay_25 : decode prog_7_method_27_code 25 = .ok (.iaload, 1) := by decide +kernel
theorem d_M_mayStay_26 : decode prog_7_method_27_code 26 = .ok (.istore 5, 2) := by decide +kernel
theorem d_M_mayStay_28 : decode prog_7_method_27_code 28 = .ok (.aload_n 0, 1) := by decide +kernel
theorem d_M_mayStay_29 : decode prog_7_method_27_code 29 = .ok (.getfield 34, 3) := by decide +kernel
theorem d_M_mayStay_32 : decode prog_7_method_27_code 32 = .ok (.iload 4, 2) := by decide +kernel
theorem d_M_mayStay_34 : decode prog_7_method_27_code 34 = .ok (.iaload, 1) := by decide +kernel
theorem d_M_mayStay_35 : decode prog_7_method_27_code 35 = .ok (.ifCond .lt 69, 3) := by decide +kernel
theorem d_M_mayStay_38 : decode prog_7_method_27_code 38 = .ok (.iload 4, 2) := by decide +kernel
theorem d_M_mayStay_40 : decode prog_7_method_27_code 40 = .ok (.iload_n 1, 1) := by decide +kernel
theorem d_M_mayStay_41 : decode prog_7_method_27_code 41 = .ok (.if_icmp .eq 63, 3) := by decide +kernel
theorem d_M_mayStay_44 : decode prog_7_method_27_code 44 = .ok (.iload 5, 2) := by decide +kernel
theorem d_M_mayStay_46 : decode prog_7_method_27_code 46 = .ok (.bipush 50, 2) := by decide +kernel
theorem d_M_mayStay_48 : decode prog_7_method_27_code 48 = .ok (.if_icmp .ge 56, 3) := by decide +kernel
theorem d_M_mayStay_51 : decode prog_7_method_27_code 51 = .ok (.iload 5, 2) := by decide +kernel
theorem d_M_mayStay_53 : decode prog_7_method_27_code 53 = .ok (.aload_n 0, 1) := by decide +kernel
theorem d_M_mayStay_54 : decode prog_7_method_27_code 54 = .ok (.getfield 40, 3) := by decide +kernel
theorem d_M_mayStay_57 : decode prog_7_method_27_code 57 = .ok (.bipush 8, 2) := by decide +kernel
theorem d_M_mayStay_59 : decode prog_7_method_27_code 59 = .ok (.iload_n 1, 1) := by decide +kernel
theorem d_M_mayStay_60 : decode prog_7_method_27_code 60 = .ok (.imul, 1) := by decide +kernel
theorem d_M_mayStay_61 : decode prog_7_method_27_code 61 = .ok (.iload_n 2, 1) := by decide +kernel
theorem d_M_mayStay_62 : decode prog_7_method_27_code 62 = .ok (.iadd, 1) := by decide +kernel
theorem d_M_mayStay_63 : decode prog_7_method_27_code 63 = .ok (.iaload, 1) := by decide +kernel
theorem d_M_mayStay_64 : decode prog_7_method_27_code 64 = .ok (.if_icmp .ge 40, 3) := by decide +kernel
theorem d_M_mayStay_67 : decode prog_7_method_27_code 67 = .ok (.aload_n 0, 1) := by decide +kernel
theorem d_M_mayStay_68 : decode prog_7_method_27_code 68 = .ok (.getfield 40, 3) := by decide +kernel
theorem d_M_mayStay_71 : decode prog_7_method_27_code 71 = .ok (.bipush 8, 2) := by decide +kernel
theorem d_M_mayStay_73 : decode prog_7_method_27_code 73 = .ok (.iload 4, 2) := by decide +kernel
theorem d_M_mayStay_75 : decode prog_7_method_27_code 75 = .ok (.imul, 1) := by decide +kernel
theorem d_M_mayStay_76 : decode prog_7_method_27_code 76 = .ok (.iload_n 1, 1) := by decide +kernel
theorem d_M_mayStay_77 : decode prog_7_method_27_code 77 = .ok (.iadd, 1) := by decide +kernel
theorem d_M_mayStay_78 : decode prog_7_method_27_code 78 = .ok (.iaload, 1) := by decide +kernel
theorem d_M_mayStay_79 : decode prog_7_method_27_code 79 = .ok (.aload_n 0, 1) := by decide +kernel
theorem d_M_mayStay_80 : decode prog_7_method_27_code 80 = .ok (.getfield 40, 3) := by decide +kernel
theorem d_M_mayStay_83 : decode prog_7_method_27_code 83 = .ok (.bipush 8, 2) := by decide +kernel
theorem d_M_mayStay_85 : decode prog_7_method_27_code 85 = .ok (.iload 4, 2) := by decide +kernel
theorem d_M_mayStay_87 : decode prog_7_method_27_code 87 = .ok (.imul, 1) := by decide +kernel
theorem d_M_mayStay_88 : decode prog_7_method_27_code 88 = .ok (.aload_n 0, 1) := by decide +kernel
theorem d_M_mayStay_89 : decode prog_7_method_27_code 89 = .ok (.getfield 34, 3) := by decide +kernel
theorem d_M_mayStay_92 : decode prog_7_method_27_code 92 = .ok (.iload 4, 2) := by decide +kernel
theorem d_M_mayStay_94 : decode prog_7_method_27_code 94 = .ok (.iaload, 1) := by decide +kernel
theorem d_M_mayStay_95 : decode prog_7_method_27_code 95 = .ok (.iadd, 1) := by decide +kernel
theorem d_M_mayStay_96 : decode prog_7_method_27_code 96 = .ok (.iaload, 1) := by decide +kernel
theorem d_M_mayStay_97 : decode prog_7_method_27_code 97 = .ok (.if_icmp .ge 7, 3) := by decide +kernel
theorem d_M_mayStay_100 : decode prog_7_method_27_code 100 = .ok (.iconst 1, 1) := by decide +kernel
theorem d_M_mayStay_101 : decode prog_7_method_27_code 101 = .ok (.goto 4, 3) := by decide +kernel
theorem d_M_mayStay_104 : decode prog_7_method_27_code 104 = .ok (.iconst 0, 1) := by decide +kernel
theorem d_M_mayStay_105 : decode prog_7_method_27_code 105 = .ok (.istore 6, 2) := by decide +kernel
theorem d_M_mayStay_107 : decode prog_7_method_27_code 107 = .ok (.iload_n 3, 1) := by decide +kernel
theorem d_M_mayStay_108 : decode prog_7_method_27_code 108 = .ok (.ifCond .eq 12, 3) := by decide +kernel
theorem d_M_mayStay_111 : decode prog_7_method_27_code 111 = .ok (.iload 6, 2) := by decide +kernel
theorem d_M_mayStay_113 : decode prog_7_method_27_code 113 = .ok (.ifCond .ne 7, 3) := by decide +kernel
theorem d_M_mayStay_116 : decode prog_7_method_27_code 116 = .ok (.iconst 1, 1) := by decide +kernel
theorem d_M_mayStay_117 : decode prog_7_method_27_code 117 = .ok (.goto 4, 3) := by decide +kernel
theorem d_M_mayStay_120 : decode prog_7_method_27_code 120 = .ok (.iconst 0, 1) := by decide +kernel
theorem d_M_mayStay_121 : decode prog_7_method_27_code 121 = .ok (.istore_n 3, 1) := by decide +kernel
theorem d_M_mayStay_122 : decode prog_7_method_27_code 122 = .ok (.iinc 4 1, 3) := by decide +kernel
theorem d_M_mayStay_125 : decode prog_7_method_27_code 125 = .ok (.goto (-120), 3) := by decide +kernel
theorem d_M_mayStay_128 : decode prog_7_method_27_code 128 = .ok (.iload_n 3, 1) := by decide +kernel
theorem d_M_mayStay_129 : decode prog_7_method_27_code 129 = .ok (.ireturn, 1) := by decide +kernel
theorem d_M_forget_0 : decode prog_7_method_28_code 0 = .ok (.aload_n 0, 1) := by decide +kernel
theorem d_M_forget_1 : decode prog_7_method_28_code 1 = .ok (.getfield 37, 3) := by decide +kernel
theorem d_M_forget_4 : decode prog_7_method_28_code 4 = .ok (.iload_n 1, 1) := by decide +kernel
theorem d_M_forget_5 : decode prog_7_method_28_code 5 = .ok (.iaload, 1) := by decide +kernel
theorem d_M_forget_6 : decode prog_7_method_28_code 6 = .ok (.ifCond .lt 49, 3) := by decide +kernel
theorem d_M_forget_9 : decode prog_7_method_28_code 9 = .ok (.iload_n 2, 1) := by decide +kernel
theorem d_M_forget_10 : decode prog_7_method_28_code 10 = .ok (.ifCond .eq 13, 3) := by decide +kernel
theorem d_M_forget_13 : decode prog_7_method_28_code 13 = .ok (.aload_n 0, 1) := by decide +kernel
theorem d_M_forget_14 : decode prog_7_method_28_code 14 = .ok (.getfield 31, 3) := by decide +kernel
theorem d_M_forget_17 : decode prog_7_method_28_code 17 = .ok (.iload_n 1, 1) := by decide +kernel
theorem d_M_forget_18 : decode prog_7_method_28_code 18 = .ok (.iaload, 1) := by decide +kernel
theorem d_M_forget_19 : decode prog_7_method_28_code 19 = .ok (.iload_n 1, 1) := by decide +kernel
theorem d_M_forget_20 : decode prog_7_method_28_code 20 = .ok (.if_icmp .lt 35, 3) := by decide +kernel
theorem d_M_forget_23 : decode prog_7_method_28_code 23 = .ok (.aload_n 0, 1) := by decide +kernel
theorem d_M_forget_24 : decode prog_7_method_28_code 24 = .ok (.getfield 34, 3) := by decide +kernel
theorem d_M_forget_27 : decode prog_7_method_28_code 27 = .ok (.aload_n 0, 1) := by decide +kernel
theorem d_M_forget_28 : decode prog_7_method_28_code 28 = .ok (.getfield 31, 3) := by decide +kernel
theorem d_M_forget_31 : decode prog_7_method_28_code 31 = .ok (.iload_n 1, 1) := by decide +kernel
theorem d_M_forget_32 : decode prog_7_method_28_code 32 = .ok (.iaload, 1) := by decide +kernel
theorem d_M_forget_33 : decode prog_7_method_28_code 33 = .ok (.iconst (-1), 1) := by decide +kernel
theorem d_M_forget_34 : decode prog_7_method_28_code 34 = .ok (.iastore, 1) := by decide +kernel
theorem d_M_forget_35 : decode prog_7_method_28_code 35 = .ok (.aload_n 0, 1) := by decide +kernel
theorem d_M_forget_36 : decode prog_7_method_28_code 36 = .ok (.getfield 34, 3) := by decide +kernel
theorem d_M_forget_39 : decode prog_7_method_28_code 39 = .ok (.iload_n 1, 1) := by decide +kernel
theorem d_M_forget_40 : decode prog_7_method_28_code 40 = .ok (.iload_n 2, 1) := by decide +kernel
theorem d_M_forget_41 : decode prog_7_method_28_code 41 = .ok (.ifCond .eq 7, 3) := by decide +kernel
theorem d_M_forget_44 : decode prog_7_method_28_code 44 = .ok (.iconst (-1), 1) := by decide +kernel
theorem d_M_forget_45 : decode prog_7_method_28_code 45 = .ok (.goto 9, 3) := by decide +kernel
theorem d_M_forget_48 : decode prog_7_method_28_code 48 = .ok (.aload_n 0, 1) := by decide +kernel
theorem d_M_forget_49 : decode prog_7_method_28_code 49 = .ok (.getfield 34, 3) := by decide +kernel
theorem d_M_forget_52 : decode prog_7_method_28_code 52 = .ok (.iload_n 1, 1) := by decide +kernel
theorem d_M_forget_53 : decode prog_7_method_28_code 53 = .ok (.iaload, 1) := by decide +kernel
theorem d_M_forget_54 : decode prog_7_method_28_code 54 = .ok (.iastore, 1) := by decide +kernel
theorem d_M_forget_55 : decode prog_7_method_28_code 55 = .ok (.return_, 1) := by decide +kernel
theorem d_M_goThrough_0 : decode prog_7_method_29_code 0 = .ok (.iconst 0, 1) := by decide +kernel
theorem d_M_goThrough_1 : decode prog_7_method_29_code 1 = .ok (.istore_n 2, 1) := by decide +kernel
theorem d_M_goThrough_2 : decode prog_7_method_29_code 2 = .ok (.iconst 0, 1) := by decide +kernel
theorem d_M_goThrough_3 : decode prog_7_method_29_code 3 = .ok (.istore_n 3, 1) := by decide +kernel
theorem d_M_goThrough_4 : decode prog_7_method_29_code 4 = .ok (.iconst 0, 1) := by decide +kernel
theorem d_M_goThrough_5 : decode prog_7_method_29_code 5 = .ok (.istore 4, 2) := by decide +kernel
theorem d_M_goThrough_7 : decode prog_7_method_29_code 7 = .ok (.iload 4, 2) := by decide +kernel
theorem d_M_goThrough_9 : decode prog_7_method_29_code 9 = .ok (.aload_n 0, 1) := by decide +kernel
theorem d_M_goThrough_10 : decode prog_7_method_29_code 10 = .ok (.getfield 47, 3) := by decide +kernel
theorem d_M_goThrough_13 : decode prog_7_method_29_code 13 = .ok (.if_icmp .ge 25, 3) := by decide +kernel
theorem d_M_goThrough_16 : decode prog_7_method_29_code 16 = .ok (.aload_n 0, 1) := by decide +kernel
theorem d_M_goThrough_17 : decode prog_7_method_29_code 17 = .ok (.getfield 37, 3) := by decide +kernel
theorem d_M_goThrough_20 : decode prog_7_method_29_code 20 = .ok (.iload 4, 2) := by decide +kernel
theorem d_M_goThrough_22 : decode prog_7_method_29_code 22 = .ok (.iconst (-1), 1) := by decide +kernel
theorem d_M_goThrough_23 : decode prog_7_method_29_code 23 = .ok (.iastore, 1) := by decide +kernel
theorem d_M_goThrough_24 : decode prog_7_method_29_code 24 = .ok (.aload_n 0, 1) := by decide +kernel
theorem d_M_goThrough_25 : decode prog_7_method_29_code 25 = .ok (.getfield 34, 3) := by decide +kernel
theorem d_M_goThrough_28 : decode prog_7_method_29_code 28 = .ok (.iload 4, 2) := by decide +kernel
theorem d_M_goThrough_30 : decode prog_7_method_29_code 30 = .ok (.iconst (-1), 1) := by decide +kernel
theorem d_M_goThrough_31 : decode prog_7_method_29_code 31 = .ok (.iastore, 1) := by decide +kernel
theorem d_M_goThrough_32 : decode prog_7_method_29_code 32 = .ok (.iinc 4 1, 3) := by decide +kernel
theorem d_M_goThrough_35 : decode prog_7_method_29_code 35 = .ok (.goto (-28), 3) := by decide +kernel
theorem d_M_goThrough_38 : decode prog_7_method_29_code 38 = .ok (.iload_n 3, 1) := by decide +kernel
theorem d_M_goThrough_39 : decode prog_7_method_29_code 39 = .ok (.ifCond .ne 151, 3) := by decide +kernel
theorem d_M_goThrough_42 : decode prog_7_method_29_code 42 = .ok (.iload_n 2, 1) := by decide +kernel
theorem d_M_goThrough_43 : decode prog_7_method_29_code 43 = .ok (.aload_n 0, 1) := by decide +kernel
theorem d_M_goThrough_44 : decode prog_7_method_29_code 44 = .ok (.getfield 47, 3) := by decide +kernel
theorem d_M_goThrough_47 : decode prog_7_method_29_code 47 = .ok (.if_icmp .ne 15, 3) := by decide +kernel
theorem d_M_goThrough_50 : decode prog_7_method_29_code 50 = .ok (.aload_n 0, 1) := by decide +kernel
theorem d_M_goThrough_51 : decode prog_7_method_29_code 51 = .ok (.iload_n 1, 1) := by decide +kernel
theorem d_M_goThrough_52 : decode prog_7_method_29_code 52 = .ok (.invokevirtual 101, 3) := by decide +kernel
theorem d_M_goThrough_55 : decode prog_7_method_29_code 55 = .ok (.istore_n 3, 1) := by decide +kernel
theorem d_M_goThrough_56 : decode prog_7_method_29_code 56 = .ok (.iinc 2 (-1), 3) := by decide +kernel
theorem d_M_goThrough_59 : decode prog_7_method_29_code 59 = .ok (.goto 114, 3) := by decide +kernel
theorem d_M_goThrough_62 : decode prog_7_method_29_code 62 = .ok (.aload_n 0, 1) := by decide +kernel
theorem d_M_goThrough_63 : decode prog_7_method_29_code 63 = .ok (.iload_n 2, 1) := by decide +kernel
theorem d_M_goThrough_64 : decode prog_7_method_29_code 64 = .ok (.iload_n 1, 1) := by decide +kernel
theorem d_M_goThrough_65 : decode prog_7_method_29_code 65 = .ok (.invokevirtual 105, 3) := by decide +kernel
theorem d_M_goThrough_68 : decode prog_7_method_29_code 68 = .ok (.aload_n 0, 1) := by decide +kernel
theorem d_M_goThrough_69 : decode prog_7_method_29_code 69 = .ok (.getfield 37, 3) := by decide +kernel
theorem d_M_goThrough_72 : decode prog_7_method_29_code 72 = .ok (.iload_n 2, 1) := by decide +kernel
theorem d_M_goThrough_73 : decode prog_7_method_29_code 73 = .ok (.aload_n 0, 1) := by decide +kernel
theorem d_M_goThrough_74 : decode prog_7_method_29_code 74 = .ok (.iload_n 2, 1) := by decide +kernel
theorem d_M_goThrough_75 : decode prog_7_method_29_code 75 = .ok (.aload_n 0, 1) := by decide +kernel
theorem d_M_goThrough_76 : decode prog_7_method_29_code 76 = .ok (.getfield 37, 3) := by decide +kernel
theorem d_M_goThrough_79 : decode prog_7_method_29_code 79 = .ok (.iload_n 2, 1) := by decide +kernel
theorem d_M_goThrough_80 : decode prog_7_method_29_code 80 = .ok (.iaload, 1) := by decide +kernel
theorem d_M_goThrough_81 : decode prog_7_method_29_code 81 = .ok (.iconst 1, 1) := by decide +kernel
theorem d_M_goThrough_82 : decode prog_7_method_29_code 82 = .ok (.iadd, 1) := by decide +kernel
theorem d_M_goThrough_83 : decode prog_7_method_29_code 83 = .ok (.iload_n 1, 1) := by decide +kernel
theorem d_M_goThrough_84 : decode prog_7_method_29_code 84 = .ok (.invokevirtual 109, 3) := by decide +kernel
theorem d_M_goThrough_87 : decode prog_7_method_29_code 87 = .ok (.iastore, 1) := by decide +kernel
theorem d_M_goThrough_88 : decode prog_7_method_29_code 88 = .ok (.aload_n 0, 1) := by decide +kernel
theorem d_M_goThrough_89 : decode prog_7_method_29_code 89 = .ok (.getfield 37, 3) := by decide +kernel
theorem d_M_goThrough_92 : decode prog_7_method_29_code 92 = .ok (.iload_n 2, 1) := by decide +kernel
theorem d_M_goThrough_93 : decode prog_7_method_29_code 93 = .ok (.iaload, 1) := by decide +kernel
theorem d_M_goThrough_94 : decode prog_7_method_29_code 94 = .ok (.aload_n 0, 1) := by decide +kernel
theorem d_M_goThrough_95 : decode prog_7_method_29_code 95 = .ok (.getfield 7, 3) := by decide +kernel
theorem d_M_goThrough_98 : decode prog_7_method_29_code 98 = .ok (.iload_n 2, 1) := by decide +kernel
theorem d_M_goThrough_99 : decode prog_7_method_29_code 99 = .ok (.iaload, 1) := by decide +kernel
theorem d_M_goThrough_100 : decode prog_7_method_29_code 100 = .ok (.if_icmp .gt 63, 3) := by decide +kernel
theorem d_M_goThrough_103 : decode prog_7_method_29_code 103 = .ok (.aload_n 0, 1) := by decide +kernel
theorem d_M_goThrough_104 : decode prog_7_method_29_code 104 = .ok (.getfield 31, 3) := by decide +kernel
theorem d_M_goThrough_107 : decode prog_7_method_29_code 107 = .ok (.iload_n 2, 1) := by decide +kernel
theorem d_M_goThrough_108 : decode prog_7_method_29_code 108 = .ok (.aload_n 0, 1) := by decide +kernel
theorem d_M_goThrough_109 : decode prog_7_method_29_code 109 = .ok (.iload_n 2, 1) := by decide +kernel
theorem d_M_goThrough_110 : decode prog_7_method_29_code 110 = .ok (.aload_n 0, 1) := by decide +kernel
theorem d_M_goThrough_111 : decode prog_7_method_29_code 111 = .ok (.getfield 37, 3) := by decide +kernel
theorem d_M_goThrough_114 : decode prog_7_method_29_code 114 = .ok (.iload_n 2, 1) := by decide +kernel
theorem d_M_goThrough_115 : decode prog_7_method_29_code 115 = .ok (.iaload, 1) := by decide +kernel
theorem d_M_goThrough_116 : decode prog_7_method_29_code 116 = .ok (.invokevirtual 91, 3) := by decide +kernel
theorem d_M_goThrough_119 : decode prog_7_method_29_code 119 = .ok (.iastore, 1) := by decide +kernel
theorem d_M_goThrough_120 : decode prog_7_method_29_code 120 = .ok (.aload_n 0, 1) := by decide +kernel
theorem d_M_goThrough_121 : decode prog_7_method_29_code 121 = .ok (.getfield 34, 3) := by decide +kernel
theorem d_M_goThrough_124 : decode prog_7_method_29_code 124 = .ok (.aload_n 0, 1) := by decide +kernel
theorem d_M_goThrough_125 : decode prog_7_method_29_code 125 = .ok (.getfield 31, 3) := by decide +kernel
theorem d_M_goThrough_128 : decode prog_7_method_29_code 128 = .ok (.iload_n 2, 1) := by decide +kernel
theorem d_M_goThrough_129 : decode prog_7_method_29_code 129 = .ok (.iaload, 1) := by decide +kernel
theorem d_M_goThrough_130 : decode prog_7_method_29_code 130 = .ok (.iload_n 2, 1) := by decide +kernel
theorem d_M_goThrough_131 : decode prog_7_method_29_code 131 = .ok (.iastore, 1) := by decide +kernel
theorem d_M_goThrough_132 : decode prog_7_method_29_code 132 = .ok (.aload_n 0, 1) := by decide +kernel
theorem d_M_goThrough_133 : decode prog_7_method_29_code 133 = .ok (.getfield 34, 3) := by decide +kernel
theorem d_M_goThrough_136 : decode prog_7_method_29_code 136 = .ok (.iload_n 2, 1) := by decide +kernel
theorem d_M_goThrough_137 : decode prog_7_method_29_code 137 = .ok (.iload_n 1, 1) := by decide +kernel
theorem d_M_goThrough_138 : decode prog_7_method_29_code 138 = .ok (.ifCond .eq 12, 3) := by decide +kernel
theorem d_M_goThrough_141 : decode prog_7_method_29_code 141 = .ok (.aload_n 0, 1) := by decide +kernel
theorem d_M_goThrough_142 : decode prog_7_method_29_code 142 = .ok (.getfield 31, 3) := by decide +kernel
theorem d_M_goThrough_145 : decode prog_7_method_29_code 145 = .ok (.iload_n 2, 1) := by decide +kernel
theorem d_M_goThrough_146 : decode prog_7_method_29_code 146 = .ok (.iaload, 1) := by decide +kernel
theorem d_M_goThrough_147 : decode prog_7_method_29_code 147 = .ok (.goto 9, 3) := by decide +kernel
theorem d_M_goThrough_150 : decode prog_7_method_29_code 150 = .ok (.aload_n 0, 1) := by decide +kernel
theorem d_M_goThrough_151 : decode prog_7_method_29_code 151 = .ok (.getfield 34, 3) := by decide +kernel
theorem d_M_goThrough_154 : decode prog_7_method_29_code 154 = .ok (.iload_n 2, 1) := by decide +kernel
theorem d_M_goThrough_155 : decode prog_7_method_29_code 155 = .ok (.iaload, 1) := by decide +kernel
theorem d_M_goThrough_156 : decode prog_7_method_29_code 156 = .ok (.iastore, 1) := by decide +kernel
theorem d_M_goThrough_157 : decode prog_7_method_29_code 157 = .ok (.iinc 2 1, 3) := by decide +kernel
theorem d_M_goThrough_160 : decode prog_7_method_29_code 160 = .ok (.goto 13, 3) := by decide +kernel
theorem d_M_goThrough_163 : decode prog_7_method_29_code 163 = .ok (.aload_n 0, 1) := by decide +kernel
theorem d_M_goThrough_164 : decode prog_7_method_29_code 164 = .ok (.getfield 37, 3) := by decide +kernel
theorem d_M_goThrough_167 : decode prog_7_method_29_code 167 = .ok (.iload_n 2, 1) := by decide +kernel
theorem d_M_goThrough_168 : decode prog_7_method_29_code 168 = .ok (.iconst (-1), 1) := by decide +kernel
theorem d_M_goThrough_169 : decode prog_7_method_29_code 169 = .ok (.iastore, 1) := by decide +kernel
theorem d_M_goThrough_170 : decode prog_7_method_29_code 170 = .ok (.iinc 2 (-1), 3) := by decide +kernel
theorem d_M_goThrough_173 : decode prog_7_method_29_code 173 = .ok (.iload_n 3, 1) := by decide +kernel
theorem d_M_goThrough_174 : decode prog_7_method_29_code 174 = .ok (.ifCond .ne 7, 3) := by decide +kernel
theorem d_M_goThrough_177 : decode prog_7_method_29_code 177 = .ok (.iload_n 2, 1) := by decide +kernel
theorem d_M_goThrough_178 : decode prog_7_method_29_code 178 = .ok (.ifCond .ge 7, 3) := by decide +kernel
theorem d_M_goThrough_181 : decode prog_7_method_29_code 181 = .ok (.iconst 1, 1) := by decide +kernel
theorem d_M_goThrough_182 : decode prog_7_method_29_code 182 = .ok (.goto 4, 3) := by decide +kernel
theorem d_M_goThrough_185 : decode prog_7_method_29_code 185 = .ok (.iconst 0, 1) := by decide +kernel
theorem d_M_goThrough_186 : decode prog_7_method_29_code 186 = .ok (.istore_n 3, 1) := by decide +kernel
theorem d_M_goThrough_187 : decode prog_7_method_29_code 187 = .ok (.goto (-149), 3) := by decide +kernel
theorem d_M_goThrough_190 : decode prog_7_method_29_code 190 = .ok (.return_, 1) := by decide +kernel
theorem d_M_look_0 : decode prog_7_method_30_code 0 = .ok (.iload_n 1, 1) := by decide +kernel
theorem d_M_look_1 : decode prog_7_method_30_code 1 = .ok (.ifCond .ne 23, 3) := by decide +kernel
theorem d_M_look_4 : decode prog_7_method_30_code 4 = .ok (.aload_n 0, 1) := by decide +kernel
theorem d_M_look_5 : decode prog_7_method_30_code 5 = .ok (.invokevirtual 113, 3) := by decide +kernel
theorem d_M_look_8 : decode prog_7_method_30_code 8 = .ok (.ifCond .eq 14, 3) := by decide +kernel
theorem d_M_look_11 : decode prog_7_method_30_code 11 = .ok (.aload_n 0, 1) := by decide +kernel
theorem d_M_look_12 : decode prog_7_method_30_code 12 = .ok (.invokevirtual 117, 3) := by decide +kernel
theorem d_M_look_15 : decode prog_7_method_30_code 15 = .ok (.ifCond .eq 7, 3) := by decide +kernel
theorem d_M_look_18 : decode prog_7_method_30_code 18 = .ok (.iconst 1, 1) := by decide +kernel
theorem d_M_look_19 : decode prog_7_method_30_code 19 = .ok (.goto 4, 3) := by decide +kernel
theorem d_M_look_22 : decode prog_7_method_30_code 22 = .ok (.iconst 0, 1) := by decide +kernel
theorem d_M_look_23 : decode prog_7_method_30_code 23 = .ok (.ireturn, 1) := by decide +kernel
theorem d_M_look_24 : decode prog_7_method_30_code 24 = .ok (.aload_n 0, 1) := by decide +kernel
theorem d_M_look_25 : decode prog_7_method_30_code 25 = .ok (.aload_n 0, 1) := by decide +kernel
theorem d_M_look_26 : decode prog_7_method_30_code 26 = .ok (.getfield 31, 3) := by decide +kernel
theorem d_M_look_29 : decode prog_7_method_30_code 29 = .ok (.invokevirtual 120, 3) := by decide +kernel
theorem d_M_look_32 : decode prog_7_method_30_code 32 = .ok (.ifCond .ne 5, 3) := by decide +kernel
theorem d_M_look_35 : decode prog_7_method_30_code 35 = .ok (.iconst 0, 1) := by decide +kernel
theorem d_M_look_36 : decode prog_7_method_30_code 36 = .ok (.ireturn, 1) := by decide +kernel
theorem d_M_look_37 : decode prog_7_method_30_code 37 = .ok (.iconst 0, 1) := by decide +kernel
theorem d_M_look_38 : decode prog_7_method_30_code 38 = .ok (.istore_n 2, 1) := by decide +kernel
theorem d_M_look_39 : decode prog_7_method_30_code 39 = .ok (.iload_n 2, 1) := by decide +kernel
theorem d_M_look_40 : decode prog_7_method_30_code 40 = .ok (.aload_n 0, 1) := by decide +kernel
theorem d_M_look_41 : decode prog_7_method_30_code 41 = .ok (.getfield 47, 3) := by decide +kernel
theorem d_M_look_44 : decode prog_7_method_30_code 44 = .ok (.if_icmp .ge 57, 3) := by decide +kernel
theorem d_M_look_47 : decode prog_7_method_30_code 47 = .ok (.aload_n 0, 1) := by decide +kernel
theorem d_M_look_48 : decode prog_7_method_30_code 48 = .ok (.getfield 19, 3) := by decide +kernel
theorem d_M_look_51 : decode prog_7_method_30_code 51 = .ok (.bipush 8, 2) := by decide +kernel
theorem d_M_look_53 : decode prog_7_method_30_code 53 = .ok (.iload_n 2, 1) := by decide +kernel
theorem d_M_look_54 : decode prog_7_method_30_code 54 = .ok (.imul, 1) := by decide +kernel
theorem d_M_look_55 : decode prog_7_method_30_code 55 = .ok (.aload_n 0, 1) := by decide +kernel
theorem d_M_look_56 : decode prog_7_method_30_code 56 = .ok (.getfield 31, 3) := by decide +kernel
theorem d_M_look_59 : decode prog_7_method_30_code 59 = .ok (.iload_n 2, 1) := by decide +kernel
theorem d_M_look_60 : decode prog_7_method_30_code 60 = .ok (.iaload, 1) := by decide +kernel
theorem d_M_look_61 : decode prog_7_method_30_code 61 = .ok (.iadd, 1) := by decide +kernel
theorem d_M_look_62 : decode prog_7_method_30_code 62 = .ok (.dup2, 1) := by decide +kernel
theorem d_M_look_63 : decode prog_7_method_30_code 63 = .ok (.iaload, 1) := by decide +kernel
theorem d_M_look_64 : decode prog_7_method_30_code 64 = .ok (.iconst 1, 1) := by decide +kernel
theorem d_M_look_65 : decode prog_7_method_30_code 65 = .ok (.iadd, 1) := by decide +kernel
theorem d_M_look_66 : decode prog_7_method_30_code 66 = .ok (.iastore, 1) := by decide +kernel
theorem d_M_look_67 : decode prog_7_method_30_code 67 = .ok (.aload_n 0, 1) := by decide +kernel
theorem d_M_look_68 : decode prog_7_method_30_code 68 = .ok (.getfield 22, 3) := by decide +kernel
theorem d_M_look_71 : decode prog_7_method_30_code 71 = .ok (.iload_n 2, 1) := by decide +kernel
theorem d_M_look_72 : decode prog_7_method_30_code 72 = .ok (.aload_n 0, 1) := by decide +kernel
theorem d_M_look_73 : decode prog_7_method_30_code 73 = .ok (.getfield 124, 3) := by decide +kernel
theorem d_M_look_76 : decode prog_7_method_30_code 76 = .ok (.ifCond .ne 12, 3) := by decide +kernel
theorem d_M_look_79 : decode prog_7_method_30_code 79 = .ok (.aload_n 0, 1) := by decide +kernel
theorem d_M_look_80 : decode prog_7_method_30_code 80 = .ok (.getfield 31, 3) := by decide +kernel
theorem d_M_look_83 : decode prog_7_method_30_code 83 = .ok (.iload_n 2, 1) := by decide +kernel
theorem d_M_look_84 : decode prog_7_method_30_code 84 = .ok (.iaload, 1) := by decide +kernel
theorem d_M_look_85 : decode prog_7_method_30_code 85 = .ok (.goto 9, 3) := by decide +kernel
theorem d_M_look_88 : decode prog_7_method_30_code 88 = .ok (.aload_n 0, 1) := by decide +kernel
theorem d_M_look_89 : decode prog_7_method_30_code 89 = .ok (.getfield 22, 3) := by decide +kernel
theorem d_M_look_92 : decode prog_7_method_30_code 92 = .ok (.iload_n 2, 1) := by decide +kernel
theorem d_M_look_93 : decode prog_7_method_30_code 93 = .ok (.iaload, 1) := by decide +kernel
theorem d_M_look_94 : decode prog_7_method_30_code 94 = .ok (.iastore, 1) := by decide +kernel
theorem d_M_look_95 : decode prog_7_method_30_code 95 = .ok (.iinc 2 1, 3) := by decide +kernel
theorem d_M_look_98 : decode prog_7_method_30_code 98 = .ok (.goto (-59), 3) := by decide +kernel
theorem d_M_look_101 : decode prog_7_method_30_code 101 = .ok (.aload_n 0, 1) := by decide +kernel
theorem d_M_look_102 : decode prog_7_method_30_code 102 = .ok (.dup, 1) := by decide +kernel
theorem d_M_look_103 : decode prog_7_method_30_code 103 = .ok (.getfield 124, 3) := by decide +kernel
theorem d_M_look_106 : decode prog_7_method_30_code 106 = .ok (.iconst 1, 1) := by decide +kernel
theorem d_M_look_107 : decode prog_7_method_30_code 107 = .ok (.iadd, 1) := by decide +kernel
theorem d_M_look_108 : decode prog_7_method_30_code 108 = .ok (.putfield 124, 3) := by decide +kernel
theorem d_M_look_111 : decode prog_7_method_30_code 111 = .ok (.iconst 0, 1) := by decide +kernel
theorem d_M_look_112 : decode prog_7_method_30_code 112 = .ok (.ireturn, 1) := by decide +kernel
theorem d_M_isPartition_0 : decode prog_7_method_31_code 0 = .ok (.iconst 0, 1) := by decide +kernel
theorem d_M_isPartition_1 : decode prog_7_method_31_code 1 = .ok (.istore_n 1, 1) := by decide +kernel
theorem d_M_isPartition_2 : decode prog_7_method_31_code 2 = .ok (.iload_n 1, 1) := by decide +kernel
theorem d_M_isPartition_3 : decode prog_7_method_31_code 3 = .ok (.aload_n 0, 1) := by decide +kernel
theorem d_M_isPartition_4 : decode prog_7_method_31_code 4 = .ok (.getfield 47, 3) := by decide +kernel
theorem d_M_isPartition_7 : decode prog_7_method_31_code 7 = .ok (.if_icmp .ge 21, 3) := by decide +kernel
theorem d_M_isPartition_10 : decode prog_7_method_31_code 10 = .ok (.aload_n 0, 1) := by decide +kernel
theorem d_M_isPartition_11 : decode prog_7_method_31_code 11 = .ok (.getfield 34, 3) := by decide +kernel
theorem d_M_isPartition_14 : decode prog_7_method_31_code 14 = .ok (.aload_n 0, 1) := by decide +kernel
theorem d_M_isPartition_15 : decode prog_7_method_31_code 15 = .ok (.getfield 31, 3) := by decide +kernel
theorem d_M_isPartition_18 : decode prog_7_method_31_code 18 = .ok (.iload_n 1, 1) := by decide +kernel
theorem d_M_isPartition_19 : decode prog_7_method_31_code 19 = .ok (.iaload, 1) := by decide +kernel
theorem d_M_isPartition_20 : decode prog_7_method_31_code 20 = .ok (.iload_n 1, 1) := by decide +kernel
theorem d_M_isPartition_21 : decode prog_7_method_31_code 21 = .ok (.iastore, 1) := by decide +kernel
theorem d_M_isPartition_22 : decode prog_7_method_31_code 22 = .ok (.iinc 1 1, 3) := by decide +kernel
theorem d_M_isPartition_25 : decode prog_7_method_31_code 25 = .ok (.goto (-23), 3) := by decide +kernel
theorem d_M_isPartition_28 : decode prog_7_method_31_code 28 = .ok (.aload_n 0, 1) := by decide +kernel
theorem d_M_isPartition_29 : decode prog_7_method_31_code 29 = .ok (.aload_n 0, 1) := by decide +kernel
theorem d_M_isPartition_30 : decode prog_7_method_31_code 30 = .ok (.getfield 34, 3) := by decide +kernel
theorem d_M_isPartition_33 : decode prog_7_method_31_code 33 = .ok (.invokevirtual 120, 3) := by decide +kernel
theorem d_M_isPartition_36 : decode prog_7_method_31_code 36 = .ok (.ireturn, 1) := by decide +kernel
theorem d_M_takesParties_0 : decode prog_7_method_32_code 0 = .ok (.iconst 0, 1) := by decide +kernel
theorem d_M_takesParties_1 : decode prog_7_method_32_code 1 = .ok (.istore_n 1, 1) := by decide +kernel
theorem d_M_takesParties_2 : decode prog_7_method_32_code 2 = .ok (.iload_n 1, 1) := by decide +kernel
theorem d_M_takesParties_3 : decode prog_7_method_32_code 3 = .ok (.aload_n 0, 1) := by decide +kernel
theorem d_M_takesParties_4 : decode prog_7_method_32_code 4 = .ok (.getfield 47, 3) := by decide +kernel
theorem d_M_takesParties_7 : decode prog_7_method_32_code 7 = .ok (.if_icmp .ge 77, 3) := by decide +kernel
theorem d_M_takesParties_10 : decode prog_7_method_32_code 10 = .ok (.iconst 1, 1) := by decide +kernel
theorem d_M_takesParties_11 : decode prog_7_method_32_code 11 = .ok (.istore_n 2, 1) := by decide +kernel
theorem d_M_takesParties_12 : decode prog_7_method_32_code 12 = .ok (.aload_n 0, 1) := by decide +kernel
theorem d_M_takesParties_13 : decode prog_7_method_32_code 13 = .ok (.getfield 31, 3) := by decide +kernel
theorem d_M_takesParties_16 : decode prog_7_method_32_code 16 = .ok (.iload_n 1, 1) := by decide +kernel
theorem d_M_takesParties_17 : decode prog_7_method_32_code 17 = .ok (.iaload, 1) := by decide +kernel
theorem d_M_takesParties_18 : decode prog_7_method_32_code 18 = .ok (.istore_n 3, 1) := by decide +kernel
theorem d_M_takesParties_19 : decode prog_7_method_32_code 19 = .ok (.iload_n 3, 1) := by decide +kernel
theorem d_M_takesParties_20 : decode prog_7_method_32_code 20 = .ok (.iload_n 1, 1) := by decide +kernel
theorem d_M_takesParties_21 : decode prog_7_method_32_code 21 = .ok (.if_icmp .eq 16, 3) := by decide +kernel
theorem d_M_takesParties_24 : decode prog_7_method_32_code 24 = .ok (.iinc 2 1, 3) := by decide +kernel
theorem d_M_takesParties_27 : decode prog_7_method_32_code 27 = .ok (.aload_n 0, 1) := by decide +kernel
theorem d_M_takesParties_28 : decode prog_7_method_32_code 28 = .ok (.getfield 31, 3) := by decide +kernel
theorem d_M_takesParties_31 : decode prog_7_method_32_code 31 = .ok (.iload_n 3, 1) := by decide +kernel
theorem d_M_takesParties_32 : decode prog_7_method_32_code 32 = .ok (.iaload, 1) := by decide +kernel
theorem d_M_takesParties_33 : decode prog_7_method_32_code 33 = .ok (.istore_n 3, 1) := by decide +kernel
theorem d_M_takesParties_34 : decode prog_7_method_32_code 34 = .ok (.goto (-15), 3) := by decide +kernel
theorem d_M_takesParties_37 : decode prog_7_method_32_code 37 = .ok (.aload_n 0, 1) := by decide +kernel
theorem d_M_takesParties_38 : decode prog_7_method_32_code 38 = .ok (.getfield 28, 3) := by decide +kernel
theorem d_M_takesParties_41 : decode prog_7_method_32_code 41 = .ok (.iload_n 1, 1) := by decide +kernel
theorem d_M_takesParties_42 : decode prog_7_method_32_code 42 = .ok (.iload_n 2, 1) := by decide +kernel
theorem d_M_takesParties_43 : decode prog_7_method_32_code 43 = .ok (.iconst 2, 1) := by decide +kernel
theorem d_M_takesParties_44 : decode prog_7_method_32_code 44 = .ok (.irem, 1) := by decide +kernel
theorem d_M_takesParties_45 : decode prog_7_method_32_code 45 = .ok (.iconst 1, 1) := by decide +kernel
theorem d_M_takesParties_46 : decode prog_7_method_32_code 46 = .ok (.if_icmp .ne 7, 3) := by decide +kernel
theorem d_M_takesParties_49 : decode prog_7_method_32_code 49 = .ok (.iload_n 2, 1) := by decide +kernel
theorem d_M_takesParties_50 : decode prog_7_method_32_code 50 = .ok (.goto 4, 3) := by decide +kernel
theorem d_M_takesParties_53 : decode prog_7_method_32_code 53 = .ok (.iconst 0, 1) := by decide +kernel
theorem d_M_takesParties_54 : decode prog_7_method_32_code 54 = .ok (.iastore, 1) := by decide +kernel
theorem d_M_takesParties_55 : decode prog_7_method_32_code 55 = .ok (.aload_n 0, 1) := by decide +kernel
theorem d_M_takesParties_56 : decode prog_7_method_32_code 56 = .ok (.getfield 25, 3) := by decide +kernel
theorem d_M_takesParties_59 : decode prog_7_method_32_code 59 = .ok (.iload_n 1, 1) := by decide +kernel
theorem d_M_takesParties_60 : decode prog_7_method_32_code 60 = .ok (.iload_n 2, 1) := by decide +kernel
theorem d_M_takesParties_61 : decode prog_7_method_32_code 61 = .ok (.iconst 2, 1) := by decide +kernel
theorem d_M_takesParties_62 : decode prog_7_method_32_code 62 = .ok (.irem, 1) := by decide +kernel
theorem d_M_takesParties_63 : decode prog_7_method_32_code 63 = .ok (.iconst 1, 1) := by decide +kernel
theorem d_M_takesParties_64 : decode prog_7_method_32_code 64 = .ok (.if_icmp .ne 12, 3) := by decide +kernel
theorem d_M_takesParties_67 : decode prog_7_method_32_code 67 = .ok (.aload_n 0, 1) := by decide +kernel
theorem d_M_takesParties_68 : decode prog_7_method_32_code 68 = .ok (.getfield 31, 3) := by decide +kernel
theorem d_M_takesParties_71 : decode prog_7_method_32_code 71 = .ok (.iload_n 1, 1) := by decide +kernel
theorem d_M_takesParties_72 : decode prog_7_method_32_code 72 = .ok (.iaload, 1) := by decide +kernel
theorem d_M_takesParties_73 : decode prog_7_method_32_code 73 = .ok (.goto 4, 3) := by decide +kernel
theorem d_M_takesParties_76 : decode prog_7_method_32_code 76 = .ok (.iconst (-1), 1) := by decide +kernel
theorem d_M_takesParties_77 : decode prog_7_method_32_code 77 = .ok (.iastore, 1) := by decide +kernel
theorem d_M_takesParties_78 : decode prog_7_method_32_code 78 = .ok (.iinc 1 1, 3) := by decide +kernel
theorem d_M_takesParties_81 : decode prog_7_method_32_code 81 = .ok (.goto (-79), 3) := by decide +kernel
theorem d_M_takesParties_84 : decode prog_7_method_32_code 84 = .ok (.iconst 1, 1) := by decide +kernel
theorem d_M_takesParties_85 : decode prog_7_method_32_code 85 = .ok (.ireturn, 1) := by decide +kernel
theorem d_M_learn_0 : decode prog_7_method_33_code 0 = .ok (.aload_n 0, 1) := by decide +kernel
theorem d_M_learn_1 : decode prog_7_method_33_code 1 = .ok (.getfield 58, 3) := by decide +kernel
theorem d_M_learn_4 : decode prog_7_method_33_code 4 = .ok (.ifCond .eq 4, 3) := by decide +kernel
theorem d_M_learn_7 : decode prog_7_method_33_code 7 = .ok (.return_, 1) := by decide +kernel
theorem d_M_learn_8 : decode prog_7_method_33_code 8 = .ok (.aload_n 0, 1) := by decide +kernel
theorem d_M_learn_9 : decode prog_7_method_33_code 9 = .ok (.iconst 1, 1) := by decide +kernel
theorem d_M_learn_10 : decode prog_7_method_33_code 10 = .ok (.putfield 58, 3) := by decide +kernel
theorem d_M_learn_13 : decode prog_7_method_33_code 13 = .ok (.iconst 0, 1) := by decide +kernel
theorem d_M_learn_14 : decode prog_7_method_33_code 14 = .ok (.istore_n 1, 1) := by decide +kernel
theorem d_M_learn_15 : decode prog_7_method_33_code 15 = .ok (.iload_n 1, 1) := by decide +kernel
theorem d_M_learn_16 : decode prog_7_method_33_code 16 = .ok (.aload_n 0, 1) := by decide +kernel
theorem d_M_learn_17 : decode prog_7_method_33_code 17 = .ok (.getfield 47, 3) := by decide +kernel
theorem d_M_learn_20 : decode prog_7_method_33_code 20 = .ok (.if_icmp .ge 66, 3) := by decide +kernel
theorem d_M_learn_23 : decode prog_7_method_33_code 23 = .ok (.iconst 0, 1) := by decide +kernel
theorem d_M_learn_24 : decode prog_7_method_33_code 24 = .ok (.istore_n 2, 1) := by decide +kernel
theorem d_M_learn_25 : decode prog_7_method_33_code 25 = .ok (.iload_n 2, 1) := by decide +kernel
theorem d_M_learn_26 : decode prog_7_method_33_code 26 = .ok (.aload_n 0, 1) := by decide +kernel
theorem d_M_learn_27 : decode prog_7_method_33_code 27 = .ok (.getfield 47, 3) := by decide +kernel
theorem d_M_learn_30 : decode prog_7_method_33_code 30 = .ok (.if_icmp .ge 50, 3) := by decide +kernel
theorem d_M_learn_33 : decode prog_7_method_33_code 33 = .ok (.aload_n 0, 1) := by decide +kernel
theorem d_M_learn_34 : decode prog_7_method_33_code 34 = .ok (.getfield 40, 3) := by decide +kernel
theorem d_M_learn_37 : decode prog_7_method_33_code 37 = .ok (.bipush 8, 2) := by decide +kernel
theorem d_M_learn_39 : decode prog_7_method_33_code 39 = .ok (.iload_n 1, 1) := by decide +kernel
theorem d_M_learn_40 : decode prog_7_method_33_code 40 = .ok (.imul, 1) := by decide +kernel
theorem d_M_learn_41 : decode prog_7_method_33_code 41 = .ok (.iload_n 2, 1) := by decide +kernel
theorem d_M_learn_42 : decode prog_7_method_33_code 42 = .ok (.iadd, 1) := by decide +kernel
theorem d_M_learn_43 : decode prog_7_method_33_code 43 = .ok (.iload_n 1, 1) := by decide +kernel
theorem d_M_learn_44 : decode prog_7_method_33_code 44 = .ok (.iload_n 2, 1) := by decide +kernel
theorem d_M_learn_45 : decode prog_7_method_33_code 45 = .ok (.if_icmp .ne 8, 3) := by decide +kernel
theorem d_M_learn_48 : decode prog_7_method_33_code 48 = .ok (.bipush 50, 2) := by decide +kernel
theorem d_M_learn_50 : decode prog_7_method_33_code 50 = .ok (.goto 23, 3) := by decide +kernel
theorem d_M_learn_53 : decode prog_7_method_33_code 53 = .ok (.aload_n 0, 1) := by decide +kernel
theorem d_M_learn_54 : decode prog_7_method_33_code 54 = .ok (.iload_n 1, 1) := by decide +kernel
theorem d_M_learn_55 : decode prog_7_method_33_code 55 = .ok (.iload_n 2, 1) := by decide +kernel
theorem d_M_learn_56 : decode prog_7_method_33_code 56 = .ok (.invokevirtual 54, 3) := by decide +kernel
theorem d_M_learn_59 : decode prog_7_method_33_code 59 = .ok (.ifCond .eq 12, 3) := by decide +kernel
theorem d_M_learn_62 : decode prog_7_method_33_code 62 = .ok (.aload_n 0, 1) := by decide +kernel
theorem d_M_learn_63 : decode prog_7_method_33_code 63 = .ok (.iload_n 1, 1) := by decide +kernel
theorem d_M_learn_64 : decode prog_7_method_33_code 64 = .ok (.iload_n 2, 1) := by decide +kernel
theorem d_M_learn_65 : decode prog_7_method_33_code 65 = .ok (.invokevirtual 50, 3) := by decide +kernel
theorem d_M_learn_68 : decode prog_7_method_33_code 68 = .ok (.goto 5, 3) := by decide +kernel
theorem d_M_learn_71 : decode prog_7_method_33_code 71 = .ok (.bipush 99, 2) := by decide +kernel
theorem d_M_learn_73 : decode prog_7_method_33_code 73 = .ok (.iastore, 1) := by decide +kernel
theorem d_M_learn_74 : decode prog_7_method_33_code 74 = .ok (.iinc 2 1, 3) := by decide +kernel
theorem d_M_learn_77 : decode prog_7_method_33_code 77 = .ok (.goto (-52), 3) := by decide +kernel
theorem d_M_learn_80 : decode prog_7_method_33_code 80 = .ok (.iinc 1 1, 3) := by decide +kernel
theorem d_M_learn_83 : decode prog_7_method_33_code 83 = .ok (.goto (-68), 3) := by decide +kernel
theorem d_M_learn_86 : decode prog_7_method_33_code 86 = .ok (.aload_n 0, 1) := by decide +kernel
theorem d_M_learn_87 : decode prog_7_method_33_code 87 = .ok (.iconst 0, 1) := by decide +kernel
theorem d_M_learn_88 : decode prog_7_method_33_code 88 = .ok (.putfield 124, 3) := by decide +kernel
theorem d_M_learn_91 : decode prog_7_method_33_code 91 = .ok (.iconst 0, 1) := by decide +kernel
theorem d_M_learn_92 : decode prog_7_method_33_code 92 = .ok (.istore_n 1, 1) := by decide +kernel
theorem d_M_learn_93 : decode prog_7_method_33_code 93 = .ok (.iload_n 1, 1) := by decide +kernel
theorem d_M_learn_94 : decode prog_7_method_33_code 94 = .ok (.bipush 64, 2) := by decide +kernel
theorem d_M_learn_96 : decode prog_7_method_33_code 96 = .ok (.if_icmp .ge 16, 3) := by decide +kernel
theorem d_M_learn_99 : decode prog_7_method_33_code 99 = .ok (.aload_n 0, 1) := by decide +kernel
theorem d_M_learn_100 : decode prog_7_method_33_code 100 = .ok (.getfield 19, 3) := by decide +kernel
theorem d_M_learn_103 : decode prog_7_method_33_code 103 = .ok (.iload_n 1, 1) := by decide +kernel
theorem d_M_learn_104 : decode prog_7_method_33_code 104 = .ok (.iconst 0, 1) := by decide +kernel
theorem d_M_learn_105 : decode prog_7_method_33_code 105 = .ok (.iastore, 1) := by decide +kernel
theorem d_M_learn_106 : decode prog_7_method_33_code 106 = .ok (.iinc 1 1, 3) := by decide +kernel
theorem d_M_learn_109 : decode prog_7_method_33_code 109 = .ok (.goto (-16), 3) := by decide +kernel
theorem d_M_learn_112 : decode prog_7_method_33_code 112 = .ok (.aload_n 0, 1) := by decide +kernel
theorem d_M_learn_113 : decode prog_7_method_33_code 113 = .ok (.iconst 1, 1) := by decide +kernel
theorem d_M_learn_114 : decode prog_7_method_33_code 114 = .ok (.invokevirtual 127, 3) := by decide +kernel
theorem d_M_learn_117 : decode prog_7_method_33_code 117 = .ok (.aload_n 0, 1) := by decide +kernel
theorem d_M_learn_118 : decode prog_7_method_33_code 118 = .ok (.iconst 0, 1) := by decide +kernel
theorem d_M_learn_119 : decode prog_7_method_33_code 119 = .ok (.invokevirtual 127, 3) := by decide +kernel
theorem d_M_learn_122 : decode prog_7_method_33_code 122 = .ok (.aload_n 0, 1) := by decide +kernel
theorem d_M_learn_123 : decode prog_7_method_33_code 123 = .ok (.iconst 0, 1) := by decide +kernel
theorem d_M_learn_124 : decode prog_7_method_33_code 124 = .ok (.putfield 131, 3) := by decide +kernel
theorem d_M_learn_127 : decode prog_7_method_33_code 127 = .ok (.aload_n 0, 1) := by decide +kernel
theorem d_M_learn_128 : decode prog_7_method_33_code 128 = .ok (.iconst 0, 1) := by decide +kernel
theorem d_M_learn_129 : decode prog_7_method_33_code 129 = .ok (.putfield 134, 3) := by decide +kernel
theorem d_M_learn_132 : decode prog_7_method_33_code 132 = .ok (.iconst 0, 1) := by decide +kernel
theorem d_M_learn_133 : decode prog_7_method_33_code 133 = .ok (.istore_n 1, 1) := by decide +kernel
theorem d_M_learn_134 : decode prog_7_method_33_code 134 = .ok (.iload_n 1, 1) := by decide +kernel
theorem d_M_learn_135 : decode prog_7_method_33_code 135 = .ok (.aload_n 0, 1) := by decide +kernel
theorem d_M_learn_136 : decode prog_7_method_33_code 136 = .ok (.getfield 47, 3) := by decide +kernel
theorem d_M_learn_139 : decode prog_7_method_33_code 139 = .ok (.if_icmp .ge 107, 3) := by decide +kernel
theorem d_M_learn_142 : decode prog_7_method_33_code 142 = .ok (.aload_n 0, 1) := by decide +kernel
theorem d_M_learn_143 : decode prog_7_method_33_code 143 = .ok (.getfield 28, 3) := by decide +kernel
theorem d_M_learn_146 : decode prog_7_method_33_code 146 = .ok (.iload_n 1, 1) := by decide +kernel
theorem d_M_learn_147 : decode prog_7_method_33_code 147 = .ok (.iaload, 1) := by decide +kernel
theorem d_M_learn_148 : decode prog_7_method_33_code 148 = .ok (.ifCond .le 7, 3) := by decide +kernel
theorem d_M_learn_151 : decode prog_7_method_33_code 151 = .ok (.iconst 1, 1) := by decide +kernel
theorem d_M_learn_152 : decode prog_7_method_33_code 152 = .ok (.goto 4, 3) := by decide +kernel
theorem d_M_learn_155 : decode prog_7_method_33_code 155 = .ok (.iconst 0, 1) := by decide +kernel
theorem d_M_learn_156 : decode prog_7_method_33_code 156 = .ok (.istore_n 2, 1) := by decide +kernel
theorem d_M_learn_157 : decode prog_7_method_33_code 157 = .ok (.aload_n 0, 1) := by decide +kernel
theorem d_M_learn_158 : decode prog_7_method_33_code 158 = .ok (.getfield 31, 3) := by decide +kernel
theorem d_M_learn_161 : decode prog_7_method_33_code 161 = .ok (.iload_n 1, 1) := by decide +kernel
theorem d_M_learn_162 : decode prog_7_method_33_code 162 = .ok (.iaload, 1) := by decide +kernel
theorem d_M_learn_163 : decode prog_7_method_33_code 163 = .ok (.istore_n 3, 1) := by decide +kernel
theorem d_M_learn_164 : decode prog_7_method_33_code 164 = .ok (.iload_n 3, 1) := by decide +kernel
theorem d_M_learn_165 : decode prog_7_method_33_code 165 = .ok (.iload_n 1, 1) := by decide +kernel
theorem d_M_learn_166 : decode prog_7_method_33_code 166 = .ok (.if_icmp .eq 28, 3) := by decide +kernel
theorem d_M_learn_169 : decode prog_7_method_33_code 169 = .ok (.iload_n 2, 1) := by decide +kernel
theorem d_M_learn_170 : decode prog_7_method_33_code 170 = .ok (.ifCond .eq 12, 3) := by decide +kernel
theorem d_M_learn_173 : decode prog_7_method_33_code 173 = .ok (.iload_n 3, 1) := by decide +kernel
theorem d_M_learn_174 : decode prog_7_method_33_code 174 = .ok (.iload_n 1, 1) := by decide +kernel
theorem d_M_learn_175 : decode prog_7_method_33_code 175 = .ok (.if_icmp .le 7, 3) := by decide +kernel
theorem d_M_learn_178 : decode prog_7_method_33_code 178 = .ok (.iconst 1, 1) := by decide +kernel
theorem d_M_learn_179 : decode prog_7_method_33_code 179 = .ok (.goto 4, 3) := by decide +kernel
end
section
/-! what stands where: M -/
theorem d_M_learn_182 : decode prog_7_method_33_code 182 = .ok (.iconst 0, 1) := by decide +kernel
theorem d_M_learn_183 : decode prog_7_method_33_code 183 = .ok (.istore_n 2, 1) := by decide +kernel
theorem d_M_learn_184 : decode prog_7_method_33_code 184 = .ok (.aload_n 0, 1) := by decide +kernel
theorem d_M_learn_185 : decode prog_7_method_33_code 185 = .ok (.getfield 31, 3) := by decide +kernel
theorem d_M_learn_188 : decode prog_7_method_33_code 188 = .ok (.iload_n 3, 1) := by decide +kernel
theorem d_M_learn_189 : decode prog_7_method_33_code 189 = .ok (.iaload, 1) := by decide +kernel
theorem d_M_learn_190 : decode prog_7_method_33_code 190 = .ok (.istore_n 3, 1) := by decide +kernel
theorem d_M_learn_191 : decode prog_7_method_33_code 191 = .ok (.goto (-27), 3) := by decide +kernel
theorem d_M_learn_194 : decode prog_7_method_33_code 194 = .ok (.aload_n 0, 1) := by decide +kernel
theorem d_M_learn_195 : decode prog_7_method_33_code 195 = .ok (.dup, 1) := by decide +kernel
theorem d_M_learn_196 : decode prog_7_method_33_code 196 = .ok (.getfield 131, 3) := by decide +kernel
theorem d_M_learn_199 : decode prog_7_method_33_code 199 = .ok (.iload_n 2, 1) := by decide +kernel
theorem d_M_learn_200 : decode prog_7_method_33_code 200 = .ok (.ifCond .eq 7, 3) := by decide +kernel
theorem d_M_learn_203 : decode prog_7_method_33_code 203 = .ok (.iconst 1, 1) := by decide +kernel
theorem d_M_learn_204 : decode prog_7_method_33_code 204 = .ok (.goto 4, 3) := by decide +kernel
theorem d_M_learn_207 : decode prog_7_method_33_code 207 = .ok (.iconst 0, 1) := by decide +kernel
theorem d_M_learn_208 : decode prog_7_method_33_code 208 = .ok (.iadd, 1) := by decide +kernel
theorem d_M_learn_209 : decode prog_7_method_33_code 209 = .ok (.putfield 131, 3) := by decide +kernel
theorem d_M_learn_212 : decode prog_7_method_33_code 212 = .ok (.aload_n 0, 1) := by decide +kernel
theorem d_M_learn_213 : decode prog_7_method_33_code 213 = .ok (.dup, 1) := by decide +kernel
theorem d_M_learn_214 : decode prog_7_method_33_code 214 = .ok (.getfield 134, 3) := by decide +kernel
theorem d_M_learn_217 : decode prog_7_method_33_code 217 = .ok (.iload_n 2, 1) := by decide +kernel
theorem d_M_learn_218 : decode prog_7_method_33_code 218 = .ok (.ifCond .eq 17, 3) := by decide +kernel
theorem d_M_learn_221 : decode prog_7_method_33_code 221 = .ok (.aload_n 0, 1) := by decide +kernel
theorem d_M_learn_222 : decode prog_7_method_33_code 222 = .ok (.getfield 28, 3) := by decide +kernel
theorem d_M_learn_225 : decode prog_7_method_33_code 225 = .ok (.iload_n 1, 1) := by decide +kernel
theorem d_M_learn_226 : decode prog_7_method_33_code 226 = .ok (.iaload, 1) := by decide +kernel
theorem d_M_learn_227 : decode prog_7_method_33_code 227 = .ok (.iconst 1, 1) := by decide +kernel
theorem d_M_learn_228 : decode prog_7_method_33_code 228 = .ok (.if_icmp .le 7, 3) := by decide +kernel
theorem d_M_learn_231 : decode prog_7_method_33_code 231 = .ok (.iconst 1, 1) := by decide +kernel
theorem d_M_learn_232 : decode prog_7_method_33_code 232 = .ok (.goto 4, 3) := by decide +kernel
theorem d_M_learn_235 : decode prog_7_method_33_code 235 = .ok (.iconst 0, 1) := by decide +kernel
theorem d_M_learn_236 : decode prog_7_method_33_code 236 = .ok (.iadd, 1) := by decide +kernel
theorem d_M_learn_237 : decode prog_7_method_33_code 237 = .ok (.putfield 134, 3) := by decide +kernel
theorem d_M_learn_240 : decode prog_7_method_33_code 240 = .ok (.iinc 1 1, 3) := by decide +kernel
theorem d_M_learn_243 : decode prog_7_method_33_code 243 = .ok (.goto (-109), 3) := by decide +kernel
theorem d_M_learn_246 : decode prog_7_method_33_code 246 = .ok (.return_, 1) := by decide +kernel
theorem d_M_matchings_0 : decode prog_7_method_34_code 0 = .ok (.aload_n 0, 1) := by decide +kernel
theorem d_M_matchings_1 : decode prog_7_method_34_code 1 = .ok (.iconst 0, 1) := by decide +kernel
theorem d_M_matchings_2 : decode prog_7_method_34_code 2 = .ok (.putfield 43, 3) := by decide +kernel
theorem d_M_matchings_5 : decode prog_7_method_34_code 5 = .ok (.aload_n 0, 1) := by decide +kernel
theorem d_M_matchings_6 : decode prog_7_method_34_code 6 = .ok (.invokevirtual 137, 3) := by decide +kernel
theorem d_M_matchings_9 : decode prog_7_method_34_code 9 = .ok (.aload_n 0, 1) := by decide +kernel
theorem d_M_matchings_10 : decode prog_7_method_34_code 10 = .ok (.getfield 124, 3) := by decide +kernel
theorem d_M_matchings_13 : decode prog_7_method_34_code 13 = .ok (.ireturn, 1) := by decide +kernel
theorem d_M_matched_0 : decode prog_7_method_35_code 0 = .ok (.aload_n 0, 1) := by decide +kernel
theorem d_M_matched_1 : decode prog_7_method_35_code 1 = .ok (.aload_n 0, 1) := by decide +kernel
theorem d_M_matched_2 : decode prog_7_method_35_code 2 = .ok (.iload_n 1, 1) := by decide +kernel
theorem d_M_matched_3 : decode prog_7_method_35_code 3 = .ok (.invokevirtual 62, 3) := by decide +kernel
theorem d_M_matched_6 : decode prog_7_method_35_code 6 = .ok (.ifCond .eq 7, 3) := by decide +kernel
theorem d_M_matched_9 : decode prog_7_method_35_code 9 = .ok (.iconst 0, 1) := by decide +kernel
theorem d_M_matched_10 : decode prog_7_method_35_code 10 = .ok (.goto 4, 3) := by decide +kernel
theorem d_M_matched_13 : decode prog_7_method_35_code 13 = .ok (.iconst 1, 1) := by decide +kernel
theorem d_M_matched_14 : decode prog_7_method_35_code 14 = .ok (.putfield 43, 3) := by decide +kernel
theorem d_M_matched_17 : decode prog_7_method_35_code 17 = .ok (.aload_n 0, 1) := by decide +kernel
theorem d_M_matched_18 : decode prog_7_method_35_code 18 = .ok (.getfield 43, 3) := by decide +kernel
theorem d_M_matched_21 : decode prog_7_method_35_code 21 = .ok (.ifCond .le 5, 3) := by decide +kernel
theorem d_M_matched_24 : decode prog_7_method_35_code 24 = .ok (.iconst 0, 1) := by decide +kernel
theorem d_M_matched_25 : decode prog_7_method_35_code 25 = .ok (.ireturn, 1) := by decide +kernel
theorem d_M_matched_26 : decode prog_7_method_35_code 26 = .ok (.aload_n 0, 1) := by decide +kernel
theorem d_M_matched_27 : decode prog_7_method_35_code 27 = .ok (.invokevirtual 137, 3) := by decide +kernel
theorem d_M_matched_30 : decode prog_7_method_35_code 30 = .ok (.aload_n 0, 1) := by decide +kernel
theorem d_M_matched_31 : decode prog_7_method_35_code 31 = .ok (.getfield 124, 3) := by decide +kernel
theorem d_M_matched_34 : decode prog_7_method_35_code 34 = .ok (.ifCond .ne 7, 3) := by decide +kernel
theorem d_M_matched_37 : decode prog_7_method_35_code 37 = .ok (.iconst (-1), 1) := by decide +kernel
theorem d_M_matched_38 : decode prog_7_method_35_code 38 = .ok (.goto 9, 3) := by decide +kernel
theorem d_M_matched_41 : decode prog_7_method_35_code 41 = .ok (.aload_n 0, 1) := by decide +kernel
theorem d_M_matched_42 : decode prog_7_method_35_code 42 = .ok (.getfield 22, 3) := by decide +kernel
theorem d_M_matched_45 : decode prog_7_method_35_code 45 = .ok (.iload_n 1, 1) := by decide +kernel
theorem d_M_matched_46 : decode prog_7_method_35_code 46 = .ok (.iaload, 1) := by decide +kernel
theorem d_M_matched_47 : decode prog_7_method_35_code 47 = .ok (.ireturn, 1) := by decide +kernel
theorem d_M_extreme_0 : decode prog_7_method_36_code 0 = .ok (.aload_n 0, 1) := by decide +kernel
theorem d_M_extreme_1 : decode prog_7_method_36_code 1 = .ok (.aload_n 0, 1) := by decide +kernel
theorem d_M_extreme_2 : decode prog_7_method_36_code 2 = .ok (.iload_n 1, 1) := by decide +kernel
theorem d_M_extreme_3 : decode prog_7_method_36_code 3 = .ok (.invokevirtual 62, 3) := by decide +kernel
theorem d_M_extreme_6 : decode prog_7_method_36_code 6 = .ok (.ifCond .eq 7, 3) := by decide +kernel
theorem d_M_extreme_9 : decode prog_7_method_36_code 9 = .ok (.iconst 0, 1) := by decide +kernel
theorem d_M_extreme_10 : decode prog_7_method_36_code 10 = .ok (.goto 4, 3) := by decide +kernel
theorem d_M_extreme_13 : decode prog_7_method_36_code 13 = .ok (.iconst 1, 1) := by decide +kernel
theorem d_M_extreme_14 : decode prog_7_method_36_code 14 = .ok (.putfield 43, 3) := by decide +kernel
theorem d_M_extreme_17 : decode prog_7_method_36_code 17 = .ok (.aload_n 0, 1) := by decide +kernel
theorem d_M_extreme_18 : decode prog_7_method_36_code 18 = .ok (.getfield 43, 3) := by decide +kernel
theorem d_M_extreme_21 : decode prog_7_method_36_code 21 = .ok (.ifCond .le 5, 3) := by decide +kernel
theorem d_M_extreme_24 : decode prog_7_method_36_code 24 = .ok (.iconst 0, 1) := by decide +kernel
theorem d_M_extreme_25 : decode prog_7_method_36_code 25 = .ok (.ireturn, 1) := by decide +kernel
theorem d_M_extreme_26 : decode prog_7_method_36_code 26 = .ok (.aload_n 0, 1) := by decide +kernel
theorem d_M_extreme_27 : decode prog_7_method_36_code 27 = .ok (.invokevirtual 137, 3) := by decide +kernel
theorem d_M_extreme_30 : decode prog_7_method_36_code 30 = .ok (.iconst (-1), 1) := by decide +kernel
theorem d_M_extreme_31 : decode prog_7_method_36_code 31 = .ok (.istore_n 3, 1) := by decide +kernel
theorem d_M_extreme_32 : decode prog_7_method_36_code 32 = .ok (.iconst 0, 1) := by decide +kernel
theorem d_M_extreme_33 : decode prog_7_method_36_code 33 = .ok (.istore 4, 2) := by decide +kernel
theorem d_M_extreme_35 : decode prog_7_method_36_code 35 = .ok (.iload 4, 2) := by decide +kernel
theorem d_M_extreme_37 : decode prog_7_method_36_code 37 = .ok (.aload_n 0, 1) := by decide +kernel
theorem d_M_extreme_38 : decode prog_7_method_36_code 38 = .ok (.getfield 7, 3) := by decide +kernel
theorem d_M_extreme_41 : decode prog_7_method_36_code 41 = .ok (.iload_n 1, 1) := by decide +kernel
theorem d_M_extreme_42 : decode prog_7_method_36_code 42 = .ok (.iaload, 1) := by decide +kernel
theorem d_M_extreme_43 : decode prog_7_method_36_code 43 = .ok (.if_icmp .gt 61, 3) := by decide +kernel
theorem d_M_extreme_46 : decode prog_7_method_36_code 46 = .ok (.aload_n 0, 1) := by decide +kernel
theorem d_M_extreme_47 : decode prog_7_method_36_code 47 = .ok (.iload_n 1, 1) := by decide +kernel
theorem d_M_extreme_48 : decode prog_7_method_36_code 48 = .ok (.iload 4, 2) := by decide +kernel
theorem d_M_extreme_50 : decode prog_7_method_36_code 50 = .ok (.invokevirtual 91, 3) := by decide +kernel
theorem d_M_extreme_53 : decode prog_7_method_36_code 53 = .ok (.istore 5, 2) := by decide +kernel
theorem d_M_extreme_55 : decode prog_7_method_36_code 55 = .ok (.aload_n 0, 1) := by decide +kernel
theorem d_M_extreme_56 : decode prog_7_method_36_code 56 = .ok (.getfield 19, 3) := by decide +kernel
theorem d_M_extreme_59 : decode prog_7_method_36_code 59 = .ok (.bipush 8, 2) := by decide +kernel
theorem d_M_extreme_61 : decode prog_7_method_36_code 61 = .ok (.iload_n 1, 1) := by decide +kernel
theorem d_M_extreme_62 : decode prog_7_method_36_code 62 = .ok (.imul, 1) := by decide +kernel
theorem d_M_extreme_63 : decode prog_7_method_36_code 63 = .ok (.iload 5, 2) := by decide +kernel
theorem d_M_extreme_65 : decode prog_7_method_36_code 65 = .ok (.iadd, 1) := by decide +kernel
theorem d_M_extreme_66 : decode prog_7_method_36_code 66 = .ok (.iaload, 1) := by decide +kernel
theorem d_M_extreme_67 : decode prog_7_method_36_code 67 = .ok (.ifCond .le 7, 3) := by decide +kernel
theorem d_M_extreme_70 : decode prog_7_method_36_code 70 = .ok (.iconst 1, 1) := by decide +kernel
theorem d_M_extreme_71 : decode prog_7_method_36_code 71 = .ok (.goto 4, 3) := by decide +kernel
theorem d_M_extreme_74 : decode prog_7_method_36_code 74 = .ok (.iconst 0, 1) := by decide +kernel
theorem d_M_extreme_75 : decode prog_7_method_36_code 75 = .ok (.istore 6, 2) := by decide +kernel
theorem d_M_extreme_77 : decode prog_7_method_36_code 77 = .ok (.iload 6, 2) := by decide +kernel
theorem d_M_extreme_79 : decode prog_7_method_36_code 79 = .ok (.ifCond .eq 17, 3) := by decide +kernel
theorem d_M_extreme_82 : decode prog_7_method_36_code 82 = .ok (.iload_n 2, 1) := by decide +kernel
theorem d_M_extreme_83 : decode prog_7_method_36_code 83 = .ok (.ifCond .ne 8, 3) := by decide +kernel
theorem d_M_extreme_86 : decode prog_7_method_36_code 86 = .ok (.iload_n 3, 1) := by decide +kernel
theorem d_M_extreme_87 : decode prog_7_method_36_code 87 = .ok (.iconst (-1), 1) := by decide +kernel
theorem d_M_extreme_88 : decode prog_7_method_36_code 88 = .ok (.if_icmp .ne 8, 3) := by decide +kernel
theorem d_M_extreme_91 : decode prog_7_method_36_code 91 = .ok (.iload 5, 2) := by decide +kernel
theorem d_M_extreme_93 : decode prog_7_method_36_code 93 = .ok (.goto 4, 3) := by decide +kernel
theorem d_M_extreme_96 : decode prog_7_method_36_code 96 = .ok (.iload_n 3, 1) := by decide +kernel
theorem d_M_extreme_97 : decode prog_7_method_36_code 97 = .ok (.istore_n 3, 1) := by decide +kernel
theorem d_M_extreme_98 : decode prog_7_method_36_code 98 = .ok (.iinc 4 1, 3) := by decide +kernel
theorem d_M_extreme_101 : decode prog_7_method_36_code 101 = .ok (.goto (-66), 3) := by decide +kernel
theorem d_M_extreme_104 : decode prog_7_method_36_code 104 = .ok (.iload_n 3, 1) := by decide +kernel
theorem d_M_extreme_105 : decode prog_7_method_36_code 105 = .ok (.ireturn, 1) := by decide +kernel
theorem d_M_together_0 : decode prog_7_method_37_code 0 = .ok (.aload_n 0, 1) := by decide +kernel
theorem d_M_together_1 : decode prog_7_method_37_code 1 = .ok (.aload_n 0, 1) := by decide +kernel
theorem d_M_together_2 : decode prog_7_method_37_code 2 = .ok (.iload_n 1, 1) := by decide +kernel
theorem d_M_together_3 : decode prog_7_method_37_code 3 = .ok (.invokevirtual 62, 3) := by decide +kernel
theorem d_M_together_6 : decode prog_7_method_37_code 6 = .ok (.ifCond .eq 15, 3) := by decide +kernel
theorem d_M_together_9 : decode prog_7_method_37_code 9 = .ok (.aload_n 0, 1) := by decide +kernel
theorem d_M_together_10 : decode prog_7_method_37_code 10 = .ok (.iload_n 2, 1) := by decide +kernel
theorem d_M_together_11 : decode prog_7_method_37_code 11 = .ok (.invokevirtual 62, 3) := by decide +kernel
theorem d_M_together_14 : decode prog_7_method_37_code 14 = .ok (.ifCond .eq 7, 3) := by decide +kernel
theorem d_M_together_17 : decode prog_7_method_37_code 17 = .ok (.iconst 0, 1) := by decide +kernel
theorem d_M_together_18 : decode prog_7_method_37_code 18 = .ok (.goto 4, 3) := by decide +kernel
theorem d_M_together_21 : decode prog_7_method_37_code 21 = .ok (.iconst 1, 1) := by decide +kernel
theorem d_M_together_22 : decode prog_7_method_37_code 22 = .ok (.putfield 43, 3) := by decide +kernel
theorem d_M_together_25 : decode prog_7_method_37_code 25 = .ok (.aload_n 0, 1) := by decide +kernel
theorem d_M_together_26 : decode prog_7_method_37_code 26 = .ok (.getfield 43, 3) := by decide +kernel
theorem d_M_together_29 : decode prog_7_method_37_code 29 = .ok (.ifCond .le 5, 3) := by decide +kernel
theorem d_M_together_32 : decode prog_7_method_37_code 32 = .ok (.iconst 0, 1) := by decide +kernel
theorem d_M_together_33 : decode prog_7_method_37_code 33 = .ok (.ireturn, 1) := by decide +kernel
theorem d_M_together_34 : decode prog_7_method_37_code 34 = .ok (.aload_n 0, 1) := by decide +kernel
theorem d_M_together_35 : decode prog_7_method_37_code 35 = .ok (.invokevirtual 137, 3) := by decide +kernel
theorem d_M_together_38 : decode prog_7_method_37_code 38 = .ok (.aload_n 0, 1) := by decide +kernel
theorem d_M_together_39 : decode prog_7_method_37_code 39 = .ok (.getfield 19, 3) := by decide +kernel
theorem d_M_together_42 : decode prog_7_method_37_code 42 = .ok (.bipush 8, 2) := by decide +kernel
theorem d_M_together_44 : decode prog_7_method_37_code 44 = .ok (.iload_n 1, 1) := by decide +kernel
theorem d_M_together_45 : decode prog_7_method_37_code 45 = .ok (.imul, 1) := by decide +kernel
theorem d_M_together_46 : decode prog_7_method_37_code 46 = .ok (.iload_n 2, 1) := by decide +kernel
theorem d_M_together_47 : decode prog_7_method_37_code 47 = .ok (.iadd, 1) := by decide +kernel
theorem d_M_together_48 : decode prog_7_method_37_code 48 = .ok (.iaload, 1) := by decide +kernel
theorem d_M_together_49 : decode prog_7_method_37_code 49 = .ok (.ireturn, 1) := by decide +kernel
theorem d_M_party_0 : decode prog_7_method_38_code 0 = .ok (.aload_n 0, 1) := by decide +kernel
theorem d_M_party_1 : decode prog_7_method_38_code 1 = .ok (.aload_n 0, 1) := by decide +kernel
theorem d_M_party_2 : decode prog_7_method_38_code 2 = .ok (.iload_n 1, 1) := by decide +kernel
theorem d_M_party_3 : decode prog_7_method_38_code 3 = .ok (.invokevirtual 62, 3) := by decide +kernel
theorem d_M_party_6 : decode prog_7_method_38_code 6 = .ok (.ifCond .eq 7, 3) := by decide +kernel
theorem d_M_party_9 : decode prog_7_method_38_code 9 = .ok (.iconst 0, 1) := by decide +kernel
theorem d_M_party_10 : decode prog_7_method_38_code 10 = .ok (.goto 4, 3) := by decide +kernel
theorem d_M_party_13 : decode prog_7_method_38_code 13 = .ok (.iconst 1, 1) := by decide +kernel
theorem d_M_party_14 : decode prog_7_method_38_code 14 = .ok (.putfield 43, 3) := by decide +kernel
theorem d_M_party_17 : decode prog_7_method_38_code 17 = .ok (.aload_n 0, 1) := by decide +kernel
theorem d_M_party_18 : decode prog_7_method_38_code 18 = .ok (.getfield 43, 3) := by decide +kernel
theorem d_M_party_21 : decode prog_7_method_38_code 21 = .ok (.ifCond .le 5, 3) := by decide +kernel
theorem d_M_party_24 : decode prog_7_method_38_code 24 = .ok (.iconst 0, 1) := by decide +kernel
theorem d_M_party_25 : decode prog_7_method_38_code 25 = .ok (.ireturn, 1) := by decide +kernel
theorem d_M_party_26 : decode prog_7_method_38_code 26 = .ok (.aload_n 0, 1) := by decide +kernel
theorem d_M_party_27 : decode prog_7_method_38_code 27 = .ok (.invokevirtual 137, 3) := by decide +kernel
theorem d_M_party_30 : decode prog_7_method_38_code 30 = .ok (.aload_n 0, 1) := by decide +kernel
theorem d_M_party_31 : decode prog_7_method_38_code 31 = .ok (.getfield 28, 3) := by decide +kernel
theorem d_M_party_34 : decode prog_7_method_38_code 34 = .ok (.iload_n 1, 1) := by decide +kernel
theorem d_M_party_35 : decode prog_7_method_38_code 35 = .ok (.iaload, 1) := by decide +kernel
theorem d_M_party_36 : decode prog_7_method_38_code 36 = .ok (.ireturn, 1) := by decide +kernel
theorem d_M_next_0 : decode prog_7_method_39_code 0 = .ok (.aload_n 0, 1) := by decide +kernel
theorem d_M_next_1 : decode prog_7_method_39_code 1 = .ok (.aload_n 0, 1) := by decide +kernel
theorem d_M_next_2 : decode prog_7_method_39_code 2 = .ok (.iload_n 1, 1) := by decide +kernel
theorem d_M_next_3 : decode prog_7_method_39_code 3 = .ok (.invokevirtual 62, 3) := by decide +kernel
theorem d_M_next_6 : decode prog_7_method_39_code 6 = .ok (.ifCond .eq 7, 3) := by decide +kernel
theorem d_M_next_9 : decode prog_7_method_39_code 9 = .ok (.iconst 0, 1) := by decide +kernel
theorem d_M_next_10 : decode prog_7_method_39_code 10 = .ok (.goto 4, 3) := by decide +kernel
theorem d_M_next_13 : decode prog_7_method_39_code 13 = .ok (.iconst 1, 1) := by decide +kernel
theorem d_M_next_14 : decode prog_7_method_39_code 14 = .ok (.putfield 43, 3) := by decide +kernel
theorem d_M_next_17 : decode prog_7_method_39_code 17 = .ok (.aload_n 0, 1) := by decide +kernel
theorem d_M_next_18 : decode prog_7_method_39_code 18 = .ok (.getfield 43, 3) := by decide +kernel
theorem d_M_next_21 : decode prog_7_method_39_code 21 = .ok (.ifCond .le 5, 3) := by decide +kernel
theorem d_M_next_24 : decode prog_7_method_39_code 24 = .ok (.iconst 0, 1) := by decide +kernel
theorem d_M_next_25 : decode prog_7_method_39_code 25 = .ok (.ireturn, 1) := by decide +kernel
theorem d_M_next_26 : decode prog_7_method_39_code 26 = .ok (.aload_n 0, 1) := by decide +kernel
theorem d_M_next_27 : decode prog_7_method_39_code 27 = .ok (.invokevirtual 137, 3) := by decide +kernel
theorem d_M_next_30 : decode prog_7_method_39_code 30 = .ok (.aload_n 0, 1) := by decide +kernel
theorem d_M_next_31 : decode prog_7_method_39_code 31 = .ok (.getfield 25, 3) := by decide +kernel
theorem d_M_next_34 : decode prog_7_method_39_code 34 = .ok (.iload_n 1, 1) := by decide +kernel
theorem d_M_next_35 : decode prog_7_method_39_code 35 = .ok (.iaload, 1) := by decide +kernel
theorem d_M_next_36 : decode prog_7_method_39_code 36 = .ok (.ireturn, 1) := by decide +kernel
theorem d_M_parties_0 : decode prog_7_method_40_code 0 = .ok (.aload_n 0, 1) := by decide +kernel
theorem d_M_parties_1 : decode prog_7_method_40_code 1 = .ok (.iconst 0, 1) := by decide +kernel
theorem d_M_parties_2 : decode prog_7_method_40_code 2 = .ok (.putfield 43, 3) := by decide +kernel
theorem d_M_parties_5 : decode prog_7_method_40_code 5 = .ok (.aload_n 0, 1) := by decide +kernel
theorem d_M_parties_6 : decode prog_7_method_40_code 6 = .ok (.invokevirtual 137, 3) := by decide +kernel
theorem d_M_parties_9 : decode prog_7_method_40_code 9 = .ok (.iload_n 1, 1) := by decide +kernel
theorem d_M_parties_10 : decode prog_7_method_40_code 10 = .ok (.ifCond .eq 10, 3) := by decide +kernel
theorem d_M_parties_13 : decode prog_7_method_40_code 13 = .ok (.aload_n 0, 1) := by decide +kernel
theorem d_M_parties_14 : decode prog_7_method_40_code 14 = .ok (.getfield 134, 3) := by decide +kernel
theorem d_M_parties_17 : decode prog_7_method_40_code 17 = .ok (.goto 7, 3) := by decide +kernel
theorem d_M_parties_20 : decode prog_7_method_40_code 20 = .ok (.aload_n 0, 1) := by decide +kernel
theorem d_M_parties_21 : decode prog_7_method_40_code 21 = .ok (.getfield 131, 3) := by decide +kernel
theorem d_M_parties_24 : decode prog_7_method_40_code 24 = .ok (.ireturn, 1) := by decide +kernel
theorem d_M_size_0 : decode prog_7_method_41_code 0 = .ok (.aload_n 0, 1) := by decide +kernel
theorem d_M_size_1 : decode prog_7_method_41_code 1 = .ok (.iconst 0, 1) := by decide +kernel
theorem d_M_size_2 : decode prog_7_method_41_code 2 = .ok (.putfield 43, 3) := by decide +kernel
theorem d_M_size_5 : decode prog_7_method_41_code 5 = .ok (.aload_n 0, 1) := by decide +kernel
theorem d_M_size_6 : decode prog_7_method_41_code 6 = .ok (.getfield 47, 3) := by decide +kernel
theorem d_M_size_9 : decode prog_7_method_41_code 9 = .ok (.ireturn, 1) := by decide +kernel
theorem d_M_astray_0 : decode prog_7_method_42_code 0 = .ok (.aload_n 0, 1) := by decide +kernel
theorem d_M_astray_1 : decode prog_7_method_42_code 1 = .ok (.iconst 0, 1) := by decide +kernel
theorem d_M_astray_2 : decode prog_7_method_42_code 2 = .ok (.putfield 43, 3) := by decide +kernel
theorem d_M_astray_5 : decode prog_7_method_42_code 5 = .ok (.iconst 0, 1) := by decide +kernel
theorem d_M_astray_6 : decode prog_7_method_42_code 6 = .ok (.ireturn, 1) := by decide +kernel
end
section
/-! what stands where: P -/
theorem d_P_init_0 : decode prog_3_method_1_code 0 = .ok (.aload_n 0, 1) := by decide +kernel
theorem d_P_init_1 : decode prog_3_method_1_code 1 = .ok (.invokespecial 3, 3) := by decide +kernel
theorem d_P_init_4 : decode prog_3_method_1_code 4 = .ok (.aload_n 0, 1) := by decide +kernel
theorem d_P_init_5 : decode prog_3_method_1_code 5 = .ok (.bipush 8, 2) := by decide +kernel
theorem d_P_init_7 : decode prog_3_method_1_code 7 = .ok (.newarray .int, 2) := by decide +kernel
theorem d_P_init_9 : decode prog_3_method_1_code 9 = .ok (.putfield 9, 3) := by decide +kernel
theorem d_P_init_12 : decode prog_3_method_1_code 12 = .ok (.aload_n 0, 1) := by decide +kernel
theorem d_P_init_13 : decode prog_3_method_1_code 13 = .ok (.bipush 8, 2) := by decide +kernel
theorem d_P_init_15 : decode prog_3_method_1_code 15 = .ok (.newarray .int, 2) := by decide +kernel
theorem d_P_init_17 : decode prog_3_method_1_code 17 = .ok (.putfield 15, 3) := by decide +kernel
theorem d_P_init_20 : decode prog_3_method_1_code 20 = .ok (.aload_n 0, 1) := by decide +kernel
theorem d_P_init_21 : decode prog_3_method_1_code 21 = .ok (.bipush 8, 2) := by decide +kernel
theorem d_P_init_23 : decode prog_3_method_1_code 23 = .ok (.newarray .int, 2) := by decide +kernel
theorem d_P_init_25 : decode prog_3_method_1_code 25 = .ok (.putfield 18, 3) := by decide +kernel
theorem d_P_init_28 : decode prog_3_method_1_code 28 = .ok (.aload_n 0, 1) := by decide +kernel
theorem d_P_init_29 : decode prog_3_method_1_code 29 = .ok (.iconst (-1), 1) := by decide +kernel
theorem d_P_init_30 : decode prog_3_method_1_code 30 = .ok (.putfield 21, 3) := by decide +kernel
theorem d_P_init_33 : decode prog_3_method_1_code 33 = .ok (.aload_n 0, 1) := by decide +kernel
theorem d_P_init_34 : decode prog_3_method_1_code 34 = .ok (.aload_n 1, 1) := by decide +kernel
theorem d_P_init_35 : decode prog_3_method_1_code 35 = .ok (.putfield 25, 3) := by decide +kernel
theorem d_P_init_38 : decode prog_3_method_1_code 38 = .ok (.return_, 1) := by decide +kernel
theorem d_P_oddSize_0 : decode prog_3_method_2_code 0 = .ok (.aload_n 0, 1) := by decide +kernel
theorem d_P_oddSize_1 : decode prog_3_method_2_code 1 = .ok (.invokevirtual 29, 3) := by decide +kernel
theorem d_P_oddSize_4 : decode prog_3_method_2_code 4 = .ok (.aload_n 0, 1) := by decide +kernel
theorem d_P_oddSize_5 : decode prog_3_method_2_code 5 = .ok (.getfield 18, 3) := by decide +kernel
theorem d_P_oddSize_8 : decode prog_3_method_2_code 8 = .ok (.iload_n 1, 1) := by decide +kernel
theorem d_P_oddSize_9 : decode prog_3_method_2_code 9 = .ok (.iaload, 1) := by decide +kernel
theorem d_P_oddSize_10 : decode prog_3_method_2_code 10 = .ok (.ireturn, 1) := by decide +kernel
theorem d_P_follower_0 : decode prog_3_method_3_code 0 = .ok (.aload_n 0, 1) := by decide +kernel
theorem d_P_follower_1 : decode prog_3_method_3_code 1 = .ok (.invokevirtual 29, 3) := by decide +kernel
theorem d_P_follower_4 : decode prog_3_method_3_code 4 = .ok (.aload_n 0, 1) := by decide +kernel
theorem d_P_follower_5 : decode prog_3_method_3_code 5 = .ok (.getfield 18, 3) := by decide +kernel
theorem d_P_follower_8 : decode prog_3_method_3_code 8 = .ok (.iload_n 1, 1) := by decide +kernel
theorem d_P_follower_9 : decode prog_3_method_3_code 9 = .ok (.iaload, 1) := by decide +kernel
theorem d_P_follower_10 : decode prog_3_method_3_code 10 = .ok (.ifCond .ne 7, 3) := by decide +kernel
theorem d_P_follower_13 : decode prog_3_method_3_code 13 = .ok (.iconst (-1), 1) := by decide +kernel
theorem d_P_follower_14 : decode prog_3_method_3_code 14 = .ok (.goto 9, 3) := by decide +kernel
theorem d_P_follower_17 : decode prog_3_method_3_code 17 = .ok (.aload_n 0, 1) := by decide +kernel
theorem d_P_follower_18 : decode prog_3_method_3_code 18 = .ok (.getfield 9, 3) := by decide +kernel
theorem d_P_follower_21 : decode prog_3_method_3_code 21 = .ok (.iload_n 1, 1) := by decide +kernel
theorem d_P_follower_22 : decode prog_3_method_3_code 22 = .ok (.iaload, 1) := by decide +kernel
theorem d_P_follower_23 : decode prog_3_method_3_code 23 = .ok (.ireturn, 1) := by decide +kernel
theorem d_P_countOdd_0 : decode prog_3_method_4_code 0 = .ok (.aload_n 0, 1) := by decide +kernel
theorem d_P_countOdd_1 : decode prog_3_method_4_code 1 = .ok (.invokevirtual 29, 3) := by decide +kernel
theorem d_P_countOdd_4 : decode prog_3_method_4_code 4 = .ok (.aload_n 0, 1) := by decide +kernel
theorem d_P_countOdd_5 : decode prog_3_method_4_code 5 = .ok (.getfield 32, 3) := by decide +kernel
theorem d_P_countOdd_8 : decode prog_3_method_4_code 8 = .ok (.ireturn, 1) := by decide +kernel
theorem d_P_countOddRings_0 : decode prog_3_method_5_code 0 = .ok (.aload_n 0, 1) := by decide +kernel
theorem d_P_countOddRings_1 : decode prog_3_method_5_code 1 = .ok (.invokevirtual 29, 3) := by decide +kernel
theorem d_P_countOddRings_4 : decode prog_3_method_5_code 4 = .ok (.aload_n 0, 1) := by decide +kernel
theorem d_P_countOddRings_5 : decode prog_3_method_5_code 5 = .ok (.getfield 35, 3) := by decide +kernel
theorem d_P_countOddRings_8 : decode prog_3_method_5_code 8 = .ok (.ireturn, 1) := by decide +kernel
theorem d_P_reckon_0 : decode prog_3_method_6_code 0 = .ok (.aload_n 0, 1) := by decide +kernel
theorem d_P_reckon_1 : decode prog_3_method_6_code 1 = .ok (.getfield 21, 3) := by decide +kernel
theorem d_P_reckon_4 : decode prog_3_method_6_code 4 = .ok (.aload_n 0, 1) := by decide +kernel
theorem d_P_reckon_5 : decode prog_3_method_6_code 5 = .ok (.getfield 25, 3) := by decide +kernel
theorem d_P_reckon_8 : decode prog_3_method_6_code 8 = .ok (.invokevirtual 38, 3) := by decide +kernel
theorem d_P_reckon_11 : decode prog_3_method_6_code 11 = .ok (.if_icmp .ne 4, 3) := by decide +kernel
theorem d_P_reckon_14 : decode prog_3_method_6_code 14 = .ok (.return_, 1) := by decide +kernel
theorem d_P_reckon_15 : decode prog_3_method_6_code 15 = .ok (.aload_n 0, 1) := by decide +kernel
theorem d_P_reckon_16 : decode prog_3_method_6_code 16 = .ok (.aload_n 0, 1) := by decide +kernel
theorem d_P_reckon_17 : decode prog_3_method_6_code 17 = .ok (.getfield 25, 3) := by decide +kernel
theorem d_P_reckon_20 : decode prog_3_method_6_code 20 = .ok (.invokevirtual 38, 3) := by decide +kernel
theorem d_P_reckon_23 : decode prog_3_method_6_code 23 = .ok (.putfield 21, 3) := by decide +kernel
theorem d_P_reckon_26 : decode prog_3_method_6_code 26 = .ok (.iconst 0, 1) := by decide +kernel
theorem d_P_reckon_27 : decode prog_3_method_6_code 27 = .ok (.istore_n 1, 1) := by decide +kernel
theorem d_P_reckon_28 : decode prog_3_method_6_code 28 = .ok (.iload_n 1, 1) := by decide +kernel
theorem d_P_reckon_29 : decode prog_3_method_6_code 29 = .ok (.bipush 8, 2) := by decide +kernel
theorem d_P_reckon_31 : decode prog_3_method_6_code 31 = .ok (.if_icmp .ge 30, 3) := by decide +kernel
theorem d_P_reckon_34 : decode prog_3_method_6_code 34 = .ok (.aload_n 0, 1) := by decide +kernel
theorem d_P_reckon_35 : decode prog_3_method_6_code 35 = .ok (.getfield 9, 3) := by decide +kernel
theorem d_P_reckon_38 : decode prog_3_method_6_code 38 = .ok (.iload_n 1, 1) := by decide +kernel
theorem d_P_reckon_39 : decode prog_3_method_6_code 39 = .ok (.iconst (-1), 1) := by decide +kernel
theorem d_P_reckon_40 : decode prog_3_method_6_code 40 = .ok (.iastore, 1) := by decide +kernel
theorem d_P_reckon_41 : decode prog_3_method_6_code 41 = .ok (.aload_n 0, 1) := by decide +kernel
theorem d_P_reckon_42 : decode prog_3_method_6_code 42 = .ok (.getfield 15, 3) := by decide +kernel
theorem d_P_reckon_45 : decode prog_3_method_6_code 45 = .ok (.iload_n 1, 1) := by decide +kernel
theorem d_P_reckon_46 : decode prog_3_method_6_code 46 = .ok (.iconst (-1), 1) := by decide +kernel
theorem d_P_reckon_47 : decode prog_3_method_6_code 47 = .ok (.iastore, 1) := by decide +kernel
theorem d_P_reckon_48 : decode prog_3_method_6_code 48 = .ok (.aload_n 0, 1) := by decide +kernel
theorem d_P_reckon_49 : decode prog_3_method_6_code 49 = .ok (.getfield 18, 3) := by decide +kernel
theorem d_P_reckon_52 : decode prog_3_method_6_code 52 = .ok (.iload_n 1, 1) := by decide +kernel
theorem d_P_reckon_53 : decode prog_3_method_6_code 53 = .ok (.iconst 0, 1) := by decide +kernel
theorem d_P_reckon_54 : decode prog_3_method_6_code 54 = .ok (.iastore, 1) := by decide +kernel
theorem d_P_reckon_55 : decode prog_3_method_6_code 55 = .ok (.iinc 1 1, 3) := by decide +kernel
theorem d_P_reckon_58 : decode prog_3_method_6_code 58 = .ok (.goto (-30), 3) := by decide +kernel
theorem d_P_reckon_61 : decode prog_3_method_6_code 61 = .ok (.aload_n 0, 1) := by decide +kernel
theorem d_P_reckon_62 : decode prog_3_method_6_code 62 = .ok (.iconst 0, 1) := by decide +kernel
theorem d_P_reckon_63 : decode prog_3_method_6_code 63 = .ok (.putfield 32, 3) := by decide +kernel
theorem d_P_reckon_66 : decode prog_3_method_6_code 66 = .ok (.aload_n 0, 1) := by decide +kernel
theorem d_P_reckon_67 : decode prog_3_method_6_code 67 = .ok (.iconst 0, 1) := by decide +kernel
theorem d_P_reckon_68 : decode prog_3_method_6_code 68 = .ok (.putfield 35, 3) := by decide +kernel
theorem d_P_reckon_71 : decode prog_3_method_6_code 71 = .ok (.aload_n 0, 1) := by decide +kernel
theorem d_P_reckon_72 : decode prog_3_method_6_code 72 = .ok (.iconst 0, 1) := by decide +kernel
theorem d_P_reckon_73 : decode prog_3_method_6_code 73 = .ok (.invokevirtual 44, 3) := by decide +kernel
theorem d_P_reckon_76 : decode prog_3_method_6_code 76 = .ok (.ifCond .eq 7, 3) := by decide +kernel
theorem d_P_reckon_79 : decode prog_3_method_6_code 79 = .ok (.aload_n 0, 1) := by decide +kernel
theorem d_P_reckon_80 : decode prog_3_method_6_code 80 = .ok (.invokevirtual 48, 3) := by decide +kernel
theorem d_P_reckon_83 : decode prog_3_method_6_code 83 = .ok (.return_, 1) := by decide +kernel
theorem d_P_search_0 : decode prog_3_method_7_code 0 = .ok (.iload_n 1, 1) := by decide +kernel
theorem d_P_search_1 : decode prog_3_method_7_code 1 = .ok (.aload_n 0, 1) := by decide +kernel
theorem d_P_search_2 : decode prog_3_method_7_code 2 = .ok (.getfield 25, 3) := by decide +kernel
theorem d_P_search_5 : decode prog_3_method_7_code 5 = .ok (.invokevirtual 51, 3) := by decide +kernel
theorem d_P_search_8 : decode prog_3_method_7_code 8 = .ok (.if_icmp .lt 5, 3) := by decide +kernel
theorem d_P_search_11 : decode prog_3_method_7_code 11 = .ok (.iconst 1, 1) := by decide +kernel
theorem d_P_search_12 : decode prog_3_method_7_code 12 = .ok (.ireturn, 1) := by decide +kernel
theorem d_P_search_13 : decode prog_3_method_7_code 13 = .ok (.iconst 0, 1) := by decide +kernel
theorem d_P_search_14 : decode prog_3_method_7_code 14 = .ok (.istore_n 2, 1) := by decide +kernel
theorem d_P_search_15 : decode prog_3_method_7_code 15 = .ok (.iload_n 2, 1) := by decide +kernel
theorem d_P_search_16 : decode prog_3_method_7_code 16 = .ok (.aload_n 0, 1) := by decide +kernel
theorem d_P_search_17 : decode prog_3_method_7_code 17 = .ok (.getfield 25, 3) := by decide +kernel
theorem d_P_search_20 : decode prog_3_method_7_code 20 = .ok (.iload_n 1, 1) := by decide +kernel
theorem d_P_search_21 : decode prog_3_method_7_code 21 = .ok (.invokevirtual 54, 3) := by decide +kernel
theorem d_P_search_24 : decode prog_3_method_7_code 24 = .ok (.if_icmp .ge 42, 3) := by decide +kernel
theorem d_P_search_27 : decode prog_3_method_7_code 27 = .ok (.aload_n 0, 1) := by decide +kernel
theorem d_P_search_28 : decode prog_3_method_7_code 28 = .ok (.getfield 25, 3) := by decide +kernel
theorem d_P_search_31 : decode prog_3_method_7_code 31 = .ok (.iload_n 1, 1) := by decide +kernel
theorem d_P_search_32 : decode prog_3_method_7_code 32 = .ok (.iload_n 2, 1) := by decide +kernel
theorem d_P_search_33 : decode prog_3_method_7_code 33 = .ok (.invokevirtual 58, 3) := by decide +kernel
theorem d_P_search_36 : decode prog_3_method_7_code 36 = .ok (.istore_n 3, 1) := by decide +kernel
theorem d_P_search_37 : decode prog_3_method_7_code 37 = .ok (.aload_n 0, 1) := by decide +kernel
theorem d_P_search_38 : decode prog_3_method_7_code 38 = .ok (.getfield 25, 3) := by decide +kernel
theorem d_P_search_41 : decode prog_3_method_7_code 41 = .ok (.iload_n 1, 1) := by decide +kernel
theorem d_P_search_42 : decode prog_3_method_7_code 42 = .ok (.iload_n 3, 1) := by decide +kernel
theorem d_P_search_43 : decode prog_3_method_7_code 43 = .ok (.invokevirtual 62, 3) := by decide +kernel
theorem d_P_search_46 : decode prog_3_method_7_code 46 = .ok (.ifCond .eq 14, 3) := by decide +kernel
theorem d_P_search_49 : decode prog_3_method_7_code 49 = .ok (.aload_n 0, 1) := by decide +kernel
theorem d_P_search_50 : decode prog_3_method_7_code 50 = .ok (.iload_n 1, 1) := by decide +kernel
theorem d_P_search_51 : decode prog_3_method_7_code 51 = .ok (.iload_n 3, 1) := by decide +kernel
theorem d_P_search_52 : decode prog_3_method_7_code 52 = .ok (.invokevirtual 66, 3) := by decide +kernel
theorem d_P_search_55 : decode prog_3_method_7_code 55 = .ok (.ifCond .eq 5, 3) := by decide +kernel
theorem d_P_search_58 : decode prog_3_method_7_code 58 = .ok (.iconst 1, 1) := by decide +kernel
theorem d_P_search_59 : decode prog_3_method_7_code 59 = .ok (.ireturn, 1) := by decide +kernel
theorem d_P_search_60 : decode prog_3_method_7_code 60 = .ok (.iinc 2 1, 3) := by decide +kernel
theorem d_P_search_63 : decode prog_3_method_7_code 63 = .ok (.goto (-48), 3) := by decide +kernel
theorem d_P_search_66 : decode prog_3_method_7_code 66 = .ok (.aload_n 0, 1) := by decide +kernel
theorem d_P_search_67 : decode prog_3_method_7_code 67 = .ok (.iload_n 1, 1) := by decide +kernel
theorem d_P_search_68 : decode prog_3_method_7_code 68 = .ok (.iload_n 1, 1) := by decide +kernel
theorem d_P_search_69 : decode prog_3_method_7_code 69 = .ok (.invokevirtual 66, 3) := by decide +kernel
theorem d_P_search_72 : decode prog_3_method_7_code 72 = .ok (.ireturn, 1) := by decide +kernel
theorem d_P_searchWith_0 : decode prog_3_method_8_code 0 = .ok (.aload_n 0, 1) := by decide +kernel
theorem d_P_searchWith_1 : decode prog_3_method_8_code 1 = .ok (.getfield 15, 3) := by decide +kernel
theorem d_P_searchWith_4 : decode prog_3_method_8_code 4 = .ok (.iload_n 2, 1) := by decide +kernel
theorem d_P_searchWith_5 : decode prog_3_method_8_code 5 = .ok (.iaload, 1) := by decide +kernel
theorem d_P_searchWith_6 : decode prog_3_method_8_code 6 = .ok (.iconst (-1), 1) := by decide +kernel
theorem d_P_searchWith_7 : decode prog_3_method_8_code 7 = .ok (.if_icmp .eq 5, 3) := by decide +kernel
theorem d_P_searchWith_10 : decode prog_3_method_8_code 10 = .ok (.iconst 0, 1) := by decide +kernel
theorem d_P_searchWith_11 : decode prog_3_method_8_code 11 = .ok (.ireturn, 1) := by decide +kernel
theorem d_P_searchWith_12 : decode prog_3_method_8_code 12 = .ok (.aload_n 0, 1) := by decide +kernel
theorem d_P_searchWith_13 : decode prog_3_method_8_code 13 = .ok (.getfield 9, 3) := by decide +kernel
theorem d_P_searchWith_16 : decode prog_3_method_8_code 16 = .ok (.iload_n 1, 1) := by decide +kernel
theorem d_P_searchWith_17 : decode prog_3_method_8_code 17 = .ok (.iload_n 2, 1) := by decide +kernel
theorem d_P_searchWith_18 : decode prog_3_method_8_code 18 = .ok (.iastore, 1) := by decide +kernel
theorem d_P_searchWith_19 : decode prog_3_method_8_code 19 = .ok (.aload_n 0, 1) := by decide +kernel
theorem d_P_searchWith_20 : decode prog_3_method_8_code 20 = .ok (.getfield 15, 3) := by decide +kernel
theorem d_P_searchWith_23 : decode prog_3_method_8_code 23 = .ok (.iload_n 2, 1) := by decide +kernel
theorem d_P_searchWith_24 : decode prog_3_method_8_code 24 = .ok (.iload_n 1, 1) := by decide +kernel
theorem d_P_searchWith_25 : decode prog_3_method_8_code 25 = .ok (.iastore, 1) := by decide +kernel
theorem d_P_searchWith_26 : decode prog_3_method_8_code 26 = .ok (.aload_n 0, 1) := by decide +kernel
theorem d_P_searchWith_27 : decode prog_3_method_8_code 27 = .ok (.iload_n 1, 1) := by decide +kernel
theorem d_P_searchWith_28 : decode prog_3_method_8_code 28 = .ok (.invokevirtual 69, 3) := by decide +kernel
theorem d_P_searchWith_31 : decode prog_3_method_8_code 31 = .ok (.ifCond .eq 38, 3) := by decide +kernel
theorem d_P_searchWith_34 : decode prog_3_method_8_code 34 = .ok (.aload_n 0, 1) := by decide +kernel
theorem d_P_searchWith_35 : decode prog_3_method_8_code 35 = .ok (.iload_n 2, 1) := by decide +kernel
theorem d_P_searchWith_36 : decode prog_3_method_8_code 36 = .ok (.invokevirtual 69, 3) := by decide +kernel
theorem d_P_searchWith_39 : decode prog_3_method_8_code 39 = .ok (.ifCond .eq 30, 3) := by decide +kernel
theorem d_P_searchWith_42 : decode prog_3_method_8_code 42 = .ok (.aload_n 0, 1) := by decide +kernel
theorem d_P_searchWith_43 : decode prog_3_method_8_code 43 = .ok (.getfield 25, 3) := by decide +kernel
theorem d_P_searchWith_46 : decode prog_3_method_8_code 46 = .ok (.iload_n 2, 1) := by decide +kernel
theorem d_P_searchWith_47 : decode prog_3_method_8_code 47 = .ok (.aload_n 0, 1) := by decide +kernel
theorem d_P_searchWith_48 : decode prog_3_method_8_code 48 = .ok (.getfield 15, 3) := by decide +kernel
theorem d_P_searchWith_51 : decode prog_3_method_8_code 51 = .ok (.invokevirtual 72, 3) := by decide +kernel
theorem d_P_searchWith_54 : decode prog_3_method_8_code 54 = .ok (.ifCond .ne 15, 3) := by decide +kernel
theorem d_P_searchWith_57 : decode prog_3_method_8_code 57 = .ok (.aload_n 0, 1) := by decide +kernel
theorem d_P_searchWith_58 : decode prog_3_method_8_code 58 = .ok (.iload_n 1, 1) := by decide +kernel
theorem d_P_searchWith_59 : decode prog_3_method_8_code 59 = .ok (.iconst 1, 1) := by decide +kernel
theorem d_P_searchWith_60 : decode prog_3_method_8_code 60 = .ok (.iadd, 1) := by decide +kernel
theorem d_P_searchWith_61 : decode prog_3_method_8_code 61 = .ok (.invokevirtual 44, 3) := by decide +kernel
theorem d_P_searchWith_64 : decode prog_3_method_8_code 64 = .ok (.ifCond .eq 5, 3) := by decide +kernel
theorem d_P_searchWith_67 : decode prog_3_method_8_code 67 = .ok (.iconst 1, 1) := by decide +kernel
theorem d_P_searchWith_68 : decode prog_3_method_8_code 68 = .ok (.ireturn, 1) := by decide +kernel
theorem d_P_searchWith_69 : decode prog_3_method_8_code 69 = .ok (.aload_n 0, 1) := by decide +kernel
theorem d_P_searchWith_70 : decode prog_3_method_8_code 70 = .ok (.getfield 9, 3) := by decide +kernel
theorem d_P_searchWith_73 : decode prog_3_method_8_code 73 = .ok (.iload_n 1, 1) := by decide +kernel
theorem d_P_searchWith_74 : decode prog_3_method_8_code 74 = .ok (.iconst (-1), 1) := by decide +kernel
theorem d_P_searchWith_75 : decode prog_3_method_8_code 75 = .ok (.iastore, 1) := by decide +kernel
theorem d_P_searchWith_76 : decode prog_3_method_8_code 76 = .ok (.aload_n 0, 1) := by decide +kernel
theorem d_P_searchWith_77 : decode prog_3_method_8_code 77 = .ok (.getfield 15, 3) := by decide +kernel
theorem d_P_searchWith_80 : decode prog_3_method_8_code 80 = .ok (.iload_n 2, 1) := by decide +kernel
theorem d_P_searchWith_81 : decode prog_3_method_8_code 81 = .ok (.iconst (-1), 1) := by decide +kernel
theorem d_P_searchWith_82 : decode prog_3_method_8_code 82 = .ok (.iastore, 1) := by decide +kernel
theorem d_P_searchWith_83 : decode prog_3_method_8_code 83 = .ok (.iconst 0, 1) := by decide +kernel
theorem d_P_searchWith_84 : decode prog_3_method_8_code 84 = .ok (.ireturn, 1) := by decide +kernel
theorem d_P_keepsOrder_0 : decode prog_3_method_9_code 0 = .ok (.aload_n 0, 1) := by decide +kernel
theorem d_P_keepsOrder_1 : decode prog_3_method_9_code 1 = .ok (.getfield 9, 3) := by decide +kernel
theorem d_P_keepsOrder_4 : decode prog_3_method_9_code 4 = .ok (.iload_n 1, 1) := by decide +kernel
theorem d_P_keepsOrder_5 : decode prog_3_method_9_code 5 = .ok (.iaload, 1) := by decide +kernel
theorem d_P_keepsOrder_6 : decode prog_3_method_9_code 6 = .ok (.istore_n 2, 1) := by decide +kernel
theorem d_P_keepsOrder_7 : decode prog_3_method_9_code 7 = .ok (.aload_n 0, 1) := by decide +kernel
theorem d_P_keepsOrder_8 : decode prog_3_method_9_code 8 = .ok (.getfield 15, 3) := by decide +kernel
theorem d_P_keepsOrder_11 : decode prog_3_method_9_code 11 = .ok (.iload_n 1, 1) := by decide +kernel
theorem d_P_keepsOrder_12 : decode prog_3_method_9_code 12 = .ok (.iaload, 1) := by decide +kernel
theorem d_P_keepsOrder_13 : decode prog_3_method_9_code 13 = .ok (.istore_n 3, 1) := by decide +kernel
theorem d_P_keepsOrder_14 : decode prog_3_method_9_code 14 = .ok (.iload_n 2, 1) := by decide +kernel
theorem d_P_keepsOrder_15 : decode prog_3_method_9_code 15 = .ok (.iconst (-1), 1) := by decide +kernel
theorem d_P_keepsOrder_16 : decode prog_3_method_9_code 16 = .ok (.if_icmp .eq 21, 3) := by decide +kernel
theorem d_P_keepsOrder_19 : decode prog_3_method_9_code 19 = .ok (.iload_n 3, 1) := by decide +kernel
theorem d_P_keepsOrder_20 : decode prog_3_method_9_code 20 = .ok (.iconst (-1), 1) := by decide +kernel
theorem d_P_keepsOrder_21 : decode prog_3_method_9_code 21 = .ok (.if_icmp .eq 16, 3) := by decide +kernel
theorem d_P_keepsOrder_24 : decode prog_3_method_9_code 24 = .ok (.aload_n 0, 1) := by decide +kernel
theorem d_P_keepsOrder_25 : decode prog_3_method_9_code 25 = .ok (.getfield 25, 3) := by decide +kernel
theorem d_P_keepsOrder_28 : decode prog_3_method_9_code 28 = .ok (.iload_n 1, 1) := by decide +kernel
theorem d_P_keepsOrder_29 : decode prog_3_method_9_code 29 = .ok (.iload_n 3, 1) := by decide +kernel
theorem d_P_keepsOrder_30 : decode prog_3_method_9_code 30 = .ok (.iload_n 2, 1) := by decide +kernel
theorem d_P_keepsOrder_31 : decode prog_3_method_9_code 31 = .ok (.invokevirtual 76, 3) := by decide +kernel
theorem d_P_keepsOrder_34 : decode prog_3_method_9_code 34 = .ok (.ifCond .ne 7, 3) := by decide +kernel
theorem d_P_keepsOrder_37 : decode prog_3_method_9_code 37 = .ok (.iconst 1, 1) := by decide +kernel
theorem d_P_keepsOrder_38 : decode prog_3_method_9_code 38 = .ok (.goto 4, 3) := by decide +kernel
theorem d_P_keepsOrder_41 : decode prog_3_method_9_code 41 = .ok (.iconst 0, 1) := by decide +kernel
theorem d_P_keepsOrder_42 : decode prog_3_method_9_code 42 = .ok (.ireturn, 1) := by decide +kernel
theorem d_P_measureAll_0 : decode prog_3_method_10_code 0 = .ok (.iconst 0, 1) := by decide +kernel
theorem d_P_measureAll_1 : decode prog_3_method_10_code 1 = .ok (.istore_n 1, 1) := by decide +kernel
theorem d_P_measureAll_2 : decode prog_3_method_10_code 2 = .ok (.iload_n 1, 1) := by decide +kernel
theorem d_P_measureAll_3 : decode prog_3_method_10_code 3 = .ok (.aload_n 0, 1) := by decide +kernel
theorem d_P_measureAll_4 : decode prog_3_method_10_code 4 = .ok (.getfield 25, 3) := by decide +kernel
theorem d_P_measureAll_7 : decode prog_3_method_10_code 7 = .ok (.invokevirtual 51, 3) := by decide +kernel
theorem d_P_measureAll_10 : decode prog_3_method_10_code 10 = .ok (.if_icmp .ge 35, 3) := by decide +kernel
theorem d_P_measureAll_13 : decode prog_3_method_10_code 13 = .ok (.aload_n 0, 1) := by decide +kernel
theorem d_P_measureAll_14 : decode prog_3_method_10_code 14 = .ok (.iload_n 1, 1) := by decide +kernel
theorem d_P_measureAll_15 : decode prog_3_method_10_code 15 = .ok (.invokevirtual 80, 3) := by decide +kernel
theorem d_P_measureAll_18 : decode prog_3_method_10_code 18 = .ok (.istore_n 2, 1) := by decide +kernel
theorem d_P_measureAll_19 : decode prog_3_method_10_code 19 = .ok (.iload_n 2, 1) := by decide +kernel
theorem d_P_measureAll_20 : decode prog_3_method_10_code 20 = .ok (.iconst 2, 1) := by decide +kernel
theorem d_P_measureAll_21 : decode prog_3_method_10_code 21 = .ok (.irem, 1) := by decide +kernel
theorem d_P_measureAll_22 : decode prog_3_method_10_code 22 = .ok (.iconst 1, 1) := by decide +kernel
theorem d_P_measureAll_23 : decode prog_3_method_10_code 23 = .ok (.if_icmp .ne 16, 3) := by decide +kernel
theorem d_P_measureAll_26 : decode prog_3_method_10_code 26 = .ok (.aload_n 0, 1) := by decide +kernel
theorem d_P_measureAll_27 : decode prog_3_method_10_code 27 = .ok (.getfield 18, 3) := by decide +kernel
theorem d_P_measureAll_30 : decode prog_3_method_10_code 30 = .ok (.iload_n 1, 1) := by decide +kernel
theorem d_P_measureAll_31 : decode prog_3_method_10_code 31 = .ok (.iload_n 2, 1) := by decide +kernel
theorem d_P_measureAll_32 : decode prog_3_method_10_code 32 = .ok (.iastore, 1) := by decide +kernel
theorem d_P_measureAll_33 : decode prog_3_method_10_code 33 = .ok (.aload_n 0, 1) := by decide +kernel
theorem d_P_measureAll_34 : decode prog_3_method_10_code 34 = .ok (.iload_n 1, 1) := by decide +kernel
theorem d_P_measureAll_35 : decode prog_3_method_10_code 35 = .ok (.iload_n 2, 1) := by decide +kernel
theorem d_P_measureAll_36 : decode prog_3_method_10_code 36 = .ok (.invokevirtual 83, 3) := by decide +kernel
theorem d_P_measureAll_39 : decode prog_3_method_10_code 39 = .ok (.iinc 1 1, 3) := by decide +kernel
theorem d_P_measureAll_42 : decode prog_3_method_10_code 42 = .ok (.goto (-40), 3) := by decide +kernel
theorem d_P_measureAll_45 : decode prog_3_method_10_code 45 = .ok (.return_, 1) := by decide +kernel
theorem d_P_sizeRound_0 : decode prog_3_method_11_code 0 = .ok (.iconst 1, 1) := by decide +kernel
theorem d_P_sizeRound_1 : decode prog_3_method_11_code 1 = .ok (.istore_n 2, 1) := by decide +kernel
theorem d_P_sizeRound_2 : decode prog_3_method_11_code 2 = .ok (.aload_n 0, 1) := by decide +kernel
theorem d_P_sizeRound_3 : decode prog_3_method_11_code 3 = .ok (.getfield 9, 3) := by decide +kernel
theorem d_P_sizeRound_6 : decode prog_3_method_11_code 6 = .ok (.iload_n 1, 1) := by decide +kernel
theorem d_P_sizeRound_7 : decode prog_3_method_11_code 7 = .ok (.iaload, 1) := by decide +kernel
theorem d_P_sizeRound_8 : decode prog_3_method_11_code 8 = .ok (.istore_n 3, 1) := by decide +kernel
theorem d_P_sizeRound_9 : decode prog_3_method_11_code 9 = .ok (.iload_n 3, 1) := by decide +kernel
theorem d_P_sizeRound_10 : decode prog_3_method_11_code 10 = .ok (.iload_n 1, 1) := by decide +kernel
theorem d_P_sizeRound_11 : decode prog_3_method_11_code 11 = .ok (.if_icmp .eq 22, 3) := by decide +kernel
theorem d_P_sizeRound_14 : decode prog_3_method_11_code 14 = .ok (.iload_n 2, 1) := by decide +kernel
theorem d_P_sizeRound_15 : decode prog_3_method_11_code 15 = .ok (.bipush 8, 2) := by decide +kernel
theorem d_P_sizeRound_17 : decode prog_3_method_11_code 17 = .ok (.if_icmp .ge 16, 3) := by decide +kernel
theorem d_P_sizeRound_20 : decode prog_3_method_11_code 20 = .ok (.aload_n 0, 1) := by decide +kernel
theorem d_P_sizeRound_21 : decode prog_3_method_11_code 21 = .ok (.getfield 9, 3) := by decide +kernel
theorem d_P_sizeRound_24 : decode prog_3_method_11_code 24 = .ok (.iload_n 3, 1) := by decide +kernel
theorem d_P_sizeRound_25 : decode prog_3_method_11_code 25 = .ok (.iaload, 1) := by decide +kernel
theorem d_P_sizeRound_26 : decode prog_3_method_11_code 26 = .ok (.istore_n 3, 1) := by decide +kernel
theorem d_P_sizeRound_27 : decode prog_3_method_11_code 27 = .ok (.iinc 2 1, 3) := by decide +kernel
theorem d_P_sizeRound_30 : decode prog_3_method_11_code 30 = .ok (.goto (-21), 3) := by decide +kernel
theorem d_P_sizeRound_33 : decode prog_3_method_11_code 33 = .ok (.iload_n 2, 1) := by decide +kernel
theorem d_P_sizeRound_34 : decode prog_3_method_11_code 34 = .ok (.ireturn, 1) := by decide +kernel
theorem d_P_countParty_0 : decode prog_3_method_12_code 0 = .ok (.iload_n 1, 1) := by decide +kernel
theorem d_P_countParty_1 : decode prog_3_method_12_code 1 = .ok (.istore_n 3, 1) := by decide +kernel
theorem d_P_countParty_2 : decode prog_3_method_12_code 2 = .ok (.iconst 1, 1) := by decide +kernel
theorem d_P_countParty_3 : decode prog_3_method_12_code 3 = .ok (.istore 4, 2) := by decide +kernel
theorem d_P_countParty_5 : decode prog_3_method_12_code 5 = .ok (.iload 4, 2) := by decide +kernel
theorem d_P_countParty_7 : decode prog_3_method_12_code 7 = .ok (.iload_n 2, 1) := by decide +kernel
theorem d_P_countParty_8 : decode prog_3_method_12_code 8 = .ok (.if_icmp .ge 22, 3) := by decide +kernel
theorem d_P_countParty_11 : decode prog_3_method_12_code 11 = .ok (.aload_n 0, 1) := by decide +kernel
theorem d_P_countParty_12 : decode prog_3_method_12_code 12 = .ok (.getfield 9, 3) := by decide +kernel
theorem d_P_countParty_15 : decode prog_3_method_12_code 15 = .ok (.iload_n 3, 1) := by decide +kernel
theorem d_P_countParty_16 : decode prog_3_method_12_code 16 = .ok (.iaload, 1) := by decide +kernel
theorem d_P_countParty_17 : decode prog_3_method_12_code 17 = .ok (.istore_n 3, 1) := by decide +kernel
theorem d_P_countParty_18 : decode prog_3_method_12_code 18 = .ok (.iload_n 3, 1) := by decide +kernel
theorem d_P_countParty_19 : decode prog_3_method_12_code 19 = .ok (.iload_n 1, 1) := by decide +kernel
theorem d_P_countParty_20 : decode prog_3_method_12_code 20 = .ok (.if_icmp .ge 4, 3) := by decide +kernel
theorem d_P_countParty_23 : decode prog_3_method_12_code 23 = .ok (.return_, 1) := by decide +kernel
theorem d_P_countParty_24 : decode prog_3_method_12_code 24 = .ok (.iinc 4 1, 3) := by decide +kernel
theorem d_P_countParty_27 : decode prog_3_method_12_code 27 = .ok (.goto (-22), 3) := by decide +kernel
theorem d_P_countParty_30 : decode prog_3_method_12_code 30 = .ok (.aload_n 0, 1) := by decide +kernel
theorem d_P_countParty_31 : decode prog_3_method_12_code 31 = .ok (.dup, 1) := by decide +kernel
theorem d_P_countParty_32 : decode prog_3_method_12_code 32 = .ok (.getfield 32, 3) := by decide +kernel
theorem d_P_countParty_35 : decode prog_3_method_12_code 35 = .ok (.iconst 1, 1) := by decide +kernel
theorem d_P_countParty_36 : decode prog_3_method_12_code 36 = .ok (.iadd, 1) := by decide +kernel
theorem d_P_countParty_37 : decode prog_3_method_12_code 37 = .ok (.putfield 32, 3) := by decide +kernel
theorem d_P_countParty_40 : decode prog_3_method_12_code 40 = .ok (.iload_n 2, 1) := by decide +kernel
theorem d_P_countParty_41 : decode prog_3_method_12_code 41 = .ok (.iconst 3, 1) := by decide +kernel
theorem d_P_countParty_42 : decode prog_3_method_12_code 42 = .ok (.if_icmp .lt 13, 3) := by decide +kernel
theorem d_P_countParty_45 : decode prog_3_method_12_code 45 = .ok (.aload_n 0, 1) := by decide +kernel
theorem d_P_countParty_46 : decode prog_3_method_12_code 46 = .ok (.dup, 1) := by decide +kernel
theorem d_P_countParty_47 : decode prog_3_method_12_code 47 = .ok (.getfield 35, 3) := by decide +kernel
theorem d_P_countParty_50 : decode prog_3_method_12_code 50 = .ok (.iconst 1, 1) := by decide +kernel
theorem d_P_countParty_51 : decode prog_3_method_12_code 51 = .ok (.iadd, 1) := by decide +kernel
theorem d_P_countParty_52 : decode prog_3_method_12_code 52 = .ok (.putfield 35, 3) := by decide +kernel
theorem d_P_countParty_55 : decode prog_3_method_12_code 55 = .ok (.return_, 1) := by decide +kernel
end
section
/-! what stands where: S -/
theorem d_S_init_0 : decode prog_4_method_1_code 0 = .ok (.aload_n 0, 1) := by decide +kernel
theorem d_S_init_1 : decode prog_4_method_1_code 1 = .ok (.invokespecial 3, 3) := by decide +kernel
theorem d_S_init_4 : decode prog_4_method_1_code 4 = .ok (.aload_n 0, 1) := by decide +kernel
theorem d_S_init_5 : decode prog_4_method_1_code 5 = .ok (.bipush 8, 2) := by decide +kernel
theorem d_S_init_7 : decode prog_4_method_1_code 7 = .ok (.newarray .int, 2) := by decide +kernel
theorem d_S_init_9 : decode prog_4_method_1_code 9 = .ok (.putfield 9, 3) := by decide +kernel
theorem d_S_init_12 : decode prog_4_method_1_code 12 = .ok (.aload_n 0, 1) := by decide +kernel
theorem d_S_init_13 : decode prog_4_method_1_code 13 = .ok (.bipush 8, 2) := by decide +kernel
theorem d_S_init_15 : decode prog_4_method_1_code 15 = .ok (.newarray .int, 2) := by decide +kernel
theorem d_S_init_17 : decode prog_4_method_1_code 17 = .ok (.putfield 15, 3) := by decide +kernel
theorem d_S_init_20 : decode prog_4_method_1_code 20 = .ok (.aload_n 0, 1) := by decide +kernel
theorem d_S_init_21 : decode prog_4_method_1_code 21 = .ok (.bipush 8, 2) := by decide +kernel
theorem d_S_init_23 : decode prog_4_method_1_code 23 = .ok (.bipush 8, 2) := by decide +kernel
theorem d_S_init_25 : decode prog_4_method_1_code 25 = .ok (.multianewarray 18 2, 4) := by decide +kernel
theorem d_S_init_29 : decode prog_4_method_1_code 29 = .ok (.putfield 20, 3) := by decide +kernel
theorem d_S_init_32 : decode prog_4_method_1_code 32 = .ok (.aload_n 0, 1) := by decide +kernel
theorem d_S_init_33 : decode prog_4_method_1_code 33 = .ok (.iconst (-1), 1) := by decide +kernel
theorem d_S_init_34 : decode prog_4_method_1_code 34 = .ok (.putfield 23, 3) := by decide +kernel
theorem d_S_init_37 : decode prog_4_method_1_code 37 = .ok (.aload_n 0, 1) := by decide +kernel
theorem d_S_init_38 : decode prog_4_method_1_code 38 = .ok (.aload_n 1, 1) := by decide +kernel
theorem d_S_init_39 : decode prog_4_method_1_code 39 = .ok (.putfield 27, 3) := by decide +kernel
theorem d_S_init_42 : decode prog_4_method_1_code 42 = .ok (.return_, 1) := by decide +kernel
theorem d_S_howMany_0 : decode prog_4_method_2_code 0 = .ok (.aload_n 0, 1) := by decide +kernel
theorem d_S_howMany_1 : decode prog_4_method_2_code 1 = .ok (.invokevirtual 31, 3) := by decide +kernel
theorem d_S_howMany_4 : decode prog_4_method_2_code 4 = .ok (.aload_n 0, 1) := by decide +kernel
theorem d_S_howMany_5 : decode prog_4_method_2_code 5 = .ok (.getfield 34, 3) := by decide +kernel
theorem d_S_howMany_8 : decode prog_4_method_2_code 8 = .ok (.ireturn, 1) := by decide +kernel
theorem d_S_mateInFirst_0 : decode prog_4_method_3_code 0 = .ok (.aload_n 0, 1) := by decide +kernel
theorem d_S_mateInFirst_1 : decode prog_4_method_3_code 1 = .ok (.invokevirtual 31, 3) := by decide +kernel
theorem d_S_mateInFirst_4 : decode prog_4_method_3_code 4 = .ok (.aload_n 0, 1) := by decide +kernel
theorem d_S_mateInFirst_5 : decode prog_4_method_3_code 5 = .ok (.getfield 34, 3) := by decide +kernel
theorem d_S_mateInFirst_8 : decode prog_4_method_3_code 8 = .ok (.ifCond .ne 7, 3) := by decide +kernel
theorem d_S_mateInFirst_11 : decode prog_4_method_3_code 11 = .ok (.iconst (-1), 1) := by decide +kernel
theorem d_S_mateInFirst_12 : decode prog_4_method_3_code 12 = .ok (.goto 9, 3) := by decide +kernel
theorem d_S_mateInFirst_15 : decode prog_4_method_3_code 15 = .ok (.aload_n 0, 1) := by decide +kernel
theorem d_S_mateInFirst_16 : decode prog_4_method_3_code 16 = .ok (.getfield 15, 3) := by decide +kernel
theorem d_S_mateInFirst_19 : decode prog_4_method_3_code 19 = .ok (.iload_n 1, 1) := by decide +kernel
theorem d_S_mateInFirst_20 : decode prog_4_method_3_code 20 = .ok (.iaload, 1) := by decide +kernel
theorem d_S_mateInFirst_21 : decode prog_4_method_3_code 21 = .ok (.ireturn, 1) := by decide +kernel
theorem d_S_howOften_0 : decode prog_4_method_4_code 0 = .ok (.aload_n 0, 1) := by decide +kernel
theorem d_S_howOften_1 : decode prog_4_method_4_code 1 = .ok (.invokevirtual 31, 3) := by decide +kernel
theorem d_S_howOften_4 : decode prog_4_method_4_code 4 = .ok (.aload_n 0, 1) := by decide +kernel
theorem d_S_howOften_5 : decode prog_4_method_4_code 5 = .ok (.getfield 20, 3) := by decide +kernel
theorem d_S_howOften_8 : decode prog_4_method_4_code 8 = .ok (.iload_n 1, 1) := by decide +kernel
theorem d_S_howOften_9 : decode prog_4_method_4_code 9 = .ok (.aaload, 1) := by decide +kernel
theorem d_S_howOften_10 : decode prog_4_method_4_code 10 = .ok (.iload_n 2, 1) := by decide +kernel
theorem d_S_howOften_11 : decode prog_4_method_4_code 11 = .ok (.iaload, 1) := by decide +kernel
theorem d_S_howOften_12 : decode prog_4_method_4_code 12 = .ok (.ireturn, 1) := by decide +kernel
theorem d_S_bestMate_0 : decode prog_4_method_5_code 0 = .ok (.aload_n 0, 1) := by decide +kernel
theorem d_S_bestMate_1 : decode prog_4_method_5_code 1 = .ok (.invokevirtual 31, 3) := by decide +kernel
theorem d_S_bestMate_4 : decode prog_4_method_5_code 4 = .ok (.iconst 0, 1) := by decide +kernel
theorem d_S_bestMate_5 : decode prog_4_method_5_code 5 = .ok (.istore_n 2, 1) := by decide +kernel
theorem d_S_bestMate_6 : decode prog_4_method_5_code 6 = .ok (.iload_n 2, 1) := by decide +kernel
theorem d_S_bestMate_7 : decode prog_4_method_5_code 7 = .ok (.aload_n 0, 1) := by decide +kernel
theorem d_S_bestMate_8 : decode prog_4_method_5_code 8 = .ok (.getfield 27, 3) := by decide +kernel
theorem d_S_bestMate_11 : decode prog_4_method_5_code 11 = .ok (.iload_n 1, 1) := by decide +kernel
theorem d_S_bestMate_12 : decode prog_4_method_5_code 12 = .ok (.invokevirtual 37, 3) := by decide +kernel
theorem d_S_bestMate_15 : decode prog_4_method_5_code 15 = .ok (.if_icmp .ge 32, 3) := by decide +kernel
theorem d_S_bestMate_18 : decode prog_4_method_5_code 18 = .ok (.aload_n 0, 1) := by decide +kernel
theorem d_S_bestMate_19 : decode prog_4_method_5_code 19 = .ok (.getfield 27, 3) := by decide +kernel
theorem d_S_bestMate_22 : decode prog_4_method_5_code 22 = .ok (.iload_n 1, 1) := by decide +kernel
theorem d_S_bestMate_23 : decode prog_4_method_5_code 23 = .ok (.iload_n 2, 1) := by decide +kernel
theorem d_S_bestMate_24 : decode prog_4_method_5_code 24 = .ok (.invokevirtual 43, 3) := by decide +kernel
theorem d_S_bestMate_27 : decode prog_4_method_5_code 27 = .ok (.istore_n 3, 1) := by decide +kernel
theorem d_S_bestMate_28 : decode prog_4_method_5_code 28 = .ok (.aload_n 0, 1) := by decide +kernel
theorem d_S_bestMate_29 : decode prog_4_method_5_code 29 = .ok (.getfield 20, 3) := by decide +kernel
theorem d_S_bestMate_32 : decode prog_4_method_5_code 32 = .ok (.iload_n 1, 1) := by decide +kernel
theorem d_S_bestMate_33 : decode prog_4_method_5_code 33 = .ok (.aaload, 1) := by decide +kernel
theorem d_S_bestMate_34 : decode prog_4_method_5_code 34 = .ok (.iload_n 3, 1) := by decide +kernel
theorem d_S_bestMate_35 : decode prog_4_method_5_code 35 = .ok (.iaload, 1) := by decide +kernel
theorem d_S_bestMate_36 : decode prog_4_method_5_code 36 = .ok (.ifCond .le 5, 3) := by decide +kernel
theorem d_S_bestMate_39 : decode prog_4_method_5_code 39 = .ok (.iload_n 3, 1) := by decide +kernel
theorem d_S_bestMate_40 : decode prog_4_method_5_code 40 = .ok (.ireturn, 1) := by decide +kernel
theorem d_S_bestMate_41 : decode prog_4_method_5_code 41 = .ok (.iinc 2 1, 3) := by decide +kernel
theorem d_S_bestMate_44 : decode prog_4_method_5_code 44 = .ok (.goto (-38), 3) := by decide +kernel
theorem d_S_bestMate_47 : decode prog_4_method_5_code 47 = .ok (.aload_n 0, 1) := by decide +kernel
theorem d_S_bestMate_48 : decode prog_4_method_5_code 48 = .ok (.getfield 34, 3) := by decide +kernel
theorem d_S_bestMate_51 : decode prog_4_method_5_code 51 = .ok (.ifCond .ne 7, 3) := by decide +kernel
theorem d_S_bestMate_54 : decode prog_4_method_5_code 54 = .ok (.iconst (-1), 1) := by decide +kernel
theorem d_S_bestMate_55 : decode prog_4_method_5_code 55 = .ok (.goto 4, 3) := by decide +kernel
theorem d_S_bestMate_58 : decode prog_4_method_5_code 58 = .ok (.iload_n 1, 1) := by decide +kernel
theorem d_S_bestMate_59 : decode prog_4_method_5_code 59 = .ok (.ireturn, 1) := by decide +kernel
theorem d_S_worstMate_0 : decode prog_4_method_6_code 0 = .ok (.aload_n 0, 1) := by decide +kernel
theorem d_S_worstMate_1 : decode prog_4_method_6_code 1 = .ok (.invokevirtual 31, 3) := by decide +kernel
theorem d_S_worstMate_4 : decode prog_4_method_6_code 4 = .ok (.aload_n 0, 1) := by decide +kernel
theorem d_S_worstMate_5 : decode prog_4_method_6_code 5 = .ok (.getfield 20, 3) := by decide +kernel
theorem d_S_worstMate_8 : decode prog_4_method_6_code 8 = .ok (.iload_n 1, 1) := by decide +kernel
theorem d_S_worstMate_9 : decode prog_4_method_6_code 9 = .ok (.aaload, 1) := by decide +kernel
theorem d_S_worstMate_10 : decode prog_4_method_6_code 10 = .ok (.iload_n 1, 1) := by decide +kernel
theorem d_S_worstMate_11 : decode prog_4_method_6_code 11 = .ok (.iaload, 1) := by decide +kernel
theorem d_S_worstMate_12 : decode prog_4_method_6_code 12 = .ok (.ifCond .le 5, 3) := by decide +kernel
theorem d_S_worstMate_15 : decode prog_4_method_6_code 15 = .ok (.iload_n 1, 1) := by decide +kernel
theorem d_S_worstMate_16 : decode prog_4_method_6_code 16 = .ok (.ireturn, 1) := by decide +kernel
theorem d_S_worstMate_17 : decode prog_4_method_6_code 17 = .ok (.aload_n 0, 1) := by decide +kernel
theorem d_S_worstMate_18 : decode prog_4_method_6_code 18 = .ok (.getfield 27, 3) := by decide +kernel
theorem d_S_worstMate_21 : decode prog_4_method_6_code 21 = .ok (.iload_n 1, 1) := by decide +kernel
theorem d_S_worstMate_22 : decode prog_4_method_6_code 22 = .ok (.invokevirtual 37, 3) := by decide +kernel
theorem d_S_worstMate_25 : decode prog_4_method_6_code 25 = .ok (.iconst 1, 1) := by decide +kernel
theorem d_S_worstMate_26 : decode prog_4_method_6_code 26 = .ok (.isub, 1) := by decide +kernel
theorem d_S_worstMate_27 : decode prog_4_method_6_code 27 = .ok (.istore_n 2, 1) := by decide +kernel
theorem d_S_worstMate_28 : decode prog_4_method_6_code 28 = .ok (.iload_n 2, 1) := by decide +kernel
theorem d_S_worstMate_29 : decode prog_4_method_6_code 29 = .ok (.ifCond .lt 32, 3) := by decide +kernel
theorem d_S_worstMate_32 : decode prog_4_method_6_code 32 = .ok (.aload_n 0, 1) := by decide +kernel
theorem d_S_worstMate_33 : decode prog_4_method_6_code 33 = .ok (.getfield 27, 3) := by decide +kernel
theorem d_S_worstMate_36 : decode prog_4_method_6_code 36 = .ok (.iload_n 1, 1) := by decide +kernel
theorem d_S_worstMate_37 : decode prog_4_method_6_code 37 = .ok (.iload_n 2, 1) := by decide +kernel
theorem d_S_worstMate_38 : decode prog_4_method_6_code 38 = .ok (.invokevirtual 43, 3) := by decide +kernel
theorem d_S_worstMate_41 : decode prog_4_method_6_code 41 = .ok (.istore_n 3, 1) := by decide +kernel
theorem d_S_worstMate_42 : decode prog_4_method_6_code 42 = .ok (.aload_n 0, 1) := by decide +kernel
theorem d_S_worstMate_43 : decode prog_4_method_6_code 43 = .ok (.getfield 20, 3) := by decide +kernel
theorem d_S_worstMate_46 : decode prog_4_method_6_code 46 = .ok (.iload_n 1, 1) := by decide +kernel
theorem d_S_worstMate_47 : decode prog_4_method_6_code 47 = .ok (.aaload, 1) := by decide +kernel
theorem d_S_worstMate_48 : decode prog_4_method_6_code 48 = .ok (.iload_n 3, 1) := by decide +kernel
theorem d_S_worstMate_49 : decode prog_4_method_6_code 49 = .ok (.iaload, 1) := by decide +kernel
theorem d_S_worstMate_50 : decode prog_4_method_6_code 50 = .ok (.ifCond .le 5, 3) := by decide +kernel
theorem d_S_worstMate_53 : decode prog_4_method_6_code 53 = .ok (.iload_n 3, 1) := by decide +kernel
theorem d_S_worstMate_54 : decode prog_4_method_6_code 54 = .ok (.ireturn, 1) := by decide +kernel
theorem d_S_worstMate_55 : decode prog_4_method_6_code 55 = .ok (.iinc 2 (-1), 3) := by decide +kernel
theorem d_S_worstMate_58 : decode prog_4_method_6_code 58 = .ok (.goto (-30), 3) := by decide +kernel
theorem d_S_worstMate_61 : decode prog_4_method_6_code 61 = .ok (.iconst (-1), 1) := by decide +kernel
theorem d_S_worstMate_62 : decode prog_4_method_6_code 62 = .ok (.ireturn, 1) := by decide +kernel
theorem d_S_reckon_0 : decode prog_4_method_7_code 0 = .ok (.aload_n 0, 1) := by decide +kernel
theorem d_S_reckon_1 : decode prog_4_method_7_code 1 = .ok (.getfield 23, 3) := by decide +kernel
theorem d_S_reckon_4 : decode prog_4_method_7_code 4 = .ok (.aload_n 0, 1) := by decide +kernel
theorem d_S_reckon_5 : decode prog_4_method_7_code 5 = .ok (.getfield 27, 3) := by decide +kernel
theorem d_S_reckon_8 : decode prog_4_method_7_code 8 = .ok (.invokevirtual 47, 3) := by decide +kernel
theorem d_S_reckon_11 : decode prog_4_method_7_code 11 = .ok (.if_icmp .ne 4, 3) := by decide +kernel
theorem d_S_reckon_14 : decode prog_4_method_7_code 14 = .ok (.return_, 1) := by decide +kernel
theorem d_S_reckon_15 : decode prog_4_method_7_code 15 = .ok (.aload_n 0, 1) := by decide +kernel
theorem d_S_reckon_16 : decode prog_4_method_7_code 16 = .ok (.aload_n 0, 1) := by decide +kernel
theorem d_S_reckon_17 : decode prog_4_method_7_code 17 = .ok (.getfield 27, 3) := by decide +kernel
theorem d_S_reckon_20 : decode prog_4_method_7_code 20 = .ok (.invokevirtual 47, 3) := by decide +kernel
theorem d_S_reckon_23 : decode prog_4_method_7_code 23 = .ok (.putfield 23, 3) := by decide +kernel
theorem d_S_reckon_26 : decode prog_4_method_7_code 26 = .ok (.aload_n 0, 1) := by decide +kernel
theorem d_S_reckon_27 : decode prog_4_method_7_code 27 = .ok (.iconst 0, 1) := by decide +kernel
theorem d_S_reckon_28 : decode prog_4_method_7_code 28 = .ok (.putfield 34, 3) := by decide +kernel
theorem d_S_reckon_31 : decode prog_4_method_7_code 31 = .ok (.iconst 0, 1) := by decide +kernel
theorem d_S_reckon_32 : decode prog_4_method_7_code 32 = .ok (.istore_n 1, 1) := by decide +kernel
theorem d_S_reckon_33 : decode prog_4_method_7_code 33 = .ok (.iload_n 1, 1) := by decide +kernel
theorem d_S_reckon_34 : decode prog_4_method_7_code 34 = .ok (.bipush 8, 2) := by decide +kernel
theorem d_S_reckon_36 : decode prog_4_method_7_code 36 = .ok (.if_icmp .ge 39, 3) := by decide +kernel
theorem d_S_reckon_39 : decode prog_4_method_7_code 39 = .ok (.aload_n 0, 1) := by decide +kernel
theorem d_S_reckon_40 : decode prog_4_method_7_code 40 = .ok (.getfield 9, 3) := by decide +kernel
theorem d_S_reckon_43 : decode prog_4_method_7_code 43 = .ok (.iload_n 1, 1) := by decide +kernel
theorem d_S_reckon_44 : decode prog_4_method_7_code 44 = .ok (.iconst (-1), 1) := by decide +kernel
theorem d_S_reckon_45 : decode prog_4_method_7_code 45 = .ok (.iastore, 1) := by decide +kernel
theorem d_S_reckon_46 : decode prog_4_method_7_code 46 = .ok (.iconst 0, 1) := by decide +kernel
theorem d_S_reckon_47 : decode prog_4_method_7_code 47 = .ok (.istore_n 2, 1) := by decide +kernel
theorem d_S_reckon_48 : decode prog_4_method_7_code 48 = .ok (.iload_n 2, 1) := by decide +kernel
theorem d_S_reckon_49 : decode prog_4_method_7_code 49 = .ok (.bipush 8, 2) := by decide +kernel
theorem d_S_reckon_51 : decode prog_4_method_7_code 51 = .ok (.if_icmp .ge 18, 3) := by decide +kernel
theorem d_S_reckon_54 : decode prog_4_method_7_code 54 = .ok (.aload_n 0, 1) := by decide +kernel
theorem d_S_reckon_55 : decode prog_4_method_7_code 55 = .ok (.getfield 20, 3) := by decide +kernel
theorem d_S_reckon_58 : decode prog_4_method_7_code 58 = .ok (.iload_n 1, 1) := by decide +kernel
theorem d_S_reckon_59 : decode prog_4_method_7_code 59 = .ok (.aaload, 1) := by decide +kernel
theorem d_S_reckon_60 : decode prog_4_method_7_code 60 = .ok (.iload_n 2, 1) := by decide +kernel
theorem d_S_reckon_61 : decode prog_4_method_7_code 61 = .ok (.iconst 0, 1) := by decide +kernel
theorem d_S_reckon_62 : decode prog_4_method_7_code 62 = .ok (.iastore, 1) := by decide +kernel
theorem d_S_reckon_63 : decode prog_4_method_7_code 63 = .ok (.iinc 2 1, 3) := by decide +kernel
theorem d_S_reckon_66 : decode prog_4_method_7_code 66 = .ok (.goto (-18), 3) := by decide +kernel
theorem d_S_reckon_69 : decode prog_4_method_7_code 69 = .ok (.iinc 1 1, 3) := by decide +kernel
theorem d_S_reckon_72 : decode prog_4_method_7_code 72 = .ok (.goto (-39), 3) := by decide +kernel
theorem d_S_reckon_75 : decode prog_4_method_7_code 75 = .ok (.aload_n 0, 1) := by decide +kernel
theorem d_S_reckon_76 : decode prog_4_method_7_code 76 = .ok (.iconst 0, 1) := by decide +kernel
theorem d_S_reckon_77 : decode prog_4_method_7_code 77 = .ok (.invokevirtual 51, 3) := by decide +kernel
theorem d_S_reckon_80 : decode prog_4_method_7_code 80 = .ok (.return_, 1) := by decide +kernel
theorem d_S_search_0 : decode prog_4_method_8_code 0 = .ok (.iload_n 1, 1) := by decide +kernel
theorem d_S_search_1 : decode prog_4_method_8_code 1 = .ok (.aload_n 0, 1) := by decide +kernel
theorem d_S_search_2 : decode prog_4_method_8_code 2 = .ok (.getfield 27, 3) := by decide +kernel
theorem d_S_search_5 : decode prog_4_method_8_code 5 = .ok (.invokevirtual 55, 3) := by decide +kernel
theorem d_S_search_8 : decode prog_4_method_8_code 8 = .ok (.if_icmp .lt 8, 3) := by decide +kernel
theorem d_S_search_11 : decode prog_4_method_8_code 11 = .ok (.aload_n 0, 1) := by decide +kernel
theorem d_S_search_12 : decode prog_4_method_8_code 12 = .ok (.invokevirtual 58, 3) := by decide +kernel
theorem d_S_search_15 : decode prog_4_method_8_code 15 = .ok (.return_, 1) := by decide +kernel
theorem d_S_search_16 : decode prog_4_method_8_code 16 = .ok (.aload_n 0, 1) := by decide +kernel
theorem d_S_search_17 : decode prog_4_method_8_code 17 = .ok (.getfield 9, 3) := by decide +kernel
theorem d_S_search_20 : decode prog_4_method_8_code 20 = .ok (.iload_n 1, 1) := by decide +kernel
theorem d_S_search_21 : decode prog_4_method_8_code 21 = .ok (.iaload, 1) := by decide +kernel
theorem d_S_search_22 : decode prog_4_method_8_code 22 = .ok (.iconst (-1), 1) := by decide +kernel
theorem d_S_search_23 : decode prog_4_method_8_code 23 = .ok (.if_icmp .eq 11, 3) := by decide +kernel
theorem d_S_search_26 : decode prog_4_method_8_code 26 = .ok (.aload_n 0, 1) := by decide +kernel
theorem d_S_search_27 : decode prog_4_method_8_code 27 = .ok (.iload_n 1, 1) := by decide +kernel
theorem d_S_search_28 : decode prog_4_method_8_code 28 = .ok (.iconst 1, 1) := by decide +kernel
theorem d_S_search_29 : decode prog_4_method_8_code 29 = .ok (.iadd, 1) := by decide +kernel
theorem d_S_search_30 : decode prog_4_method_8_code 30 = .ok (.invokevirtual 51, 3) := by decide +kernel
theorem d_S_search_33 : decode prog_4_method_8_code 33 = .ok (.return_, 1) := by decide +kernel
theorem d_S_search_34 : decode prog_4_method_8_code 34 = .ok (.iconst 0, 1) := by decide +kernel
theorem d_S_search_35 : decode prog_4_method_8_code 35 = .ok (.istore_n 2, 1) := by decide +kernel
theorem d_S_search_36 : decode prog_4_method_8_code 36 = .ok (.iload_n 2, 1) := by decide +kernel
theorem d_S_search_37 : decode prog_4_method_8_code 37 = .ok (.aload_n 0, 1) := by decide +kernel
theorem d_S_search_38 : decode prog_4_method_8_code 38 = .ok (.getfield 27, 3) := by decide +kernel
theorem d_S_search_41 : decode prog_4_method_8_code 41 = .ok (.iload_n 1, 1) := by decide +kernel
theorem d_S_search_42 : decode prog_4_method_8_code 42 = .ok (.invokevirtual 37, 3) := by decide +kernel
theorem d_S_search_45 : decode prog_4_method_8_code 45 = .ok (.if_icmp .ge 47, 3) := by decide +kernel
theorem d_S_search_48 : decode prog_4_method_8_code 48 = .ok (.aload_n 0, 1) := by decide +kernel
theorem d_S_search_49 : decode prog_4_method_8_code 49 = .ok (.getfield 27, 3) := by decide +kernel
theorem d_S_search_52 : decode prog_4_method_8_code 52 = .ok (.iload_n 1, 1) := by decide +kernel
theorem d_S_search_53 : decode prog_4_method_8_code 53 = .ok (.iload_n 2, 1) := by decide +kernel
theorem d_S_search_54 : decode prog_4_method_8_code 54 = .ok (.invokevirtual 43, 3) := by decide +kernel
theorem d_S_search_57 : decode prog_4_method_8_code 57 = .ok (.istore_n 3, 1) := by decide +kernel
theorem d_S_search_58 : decode prog_4_method_8_code 58 = .ok (.aload_n 0, 1) := by decide +kernel
theorem d_S_search_59 : decode prog_4_method_8_code 59 = .ok (.getfield 9, 3) := by decide +kernel
theorem d_S_search_62 : decode prog_4_method_8_code 62 = .ok (.iload_n 3, 1) := by decide +kernel
theorem d_S_search_63 : decode prog_4_method_8_code 63 = .ok (.iaload, 1) := by decide +kernel
theorem d_S_search_64 : decode prog_4_method_8_code 64 = .ok (.iconst (-1), 1) := by decide +kernel
theorem d_S_search_65 : decode prog_4_method_8_code 65 = .ok (.if_icmp .ne 21, 3) := by decide +kernel
theorem d_S_search_68 : decode prog_4_method_8_code 68 = .ok (.aload_n 0, 1) := by decide +kernel
theorem d_S_search_69 : decode prog_4_method_8_code 69 = .ok (.getfield 27, 3) := by decide +kernel
theorem d_S_search_72 : decode prog_4_method_8_code 72 = .ok (.iload_n 1, 1) := by decide +kernel
theorem d_S_search_73 : decode prog_4_method_8_code 73 = .ok (.iload_n 3, 1) := by decide +kernel
theorem d_S_search_74 : decode prog_4_method_8_code 74 = .ok (.invokevirtual 61, 3) := by decide +kernel
theorem d_S_search_77 : decode prog_4_method_8_code 77 = .ok (.ifCond .eq 9, 3) := by decide +kernel
theorem d_S_search_80 : decode prog_4_method_8_code 80 = .ok (.aload_n 0, 1) := by decide +kernel
theorem d_S_search_81 : decode prog_4_method_8_code 81 = .ok (.iload_n 1, 1) := by decide +kernel
theorem d_S_search_82 : decode prog_4_method_8_code 82 = .ok (.iload_n 3, 1) := by decide +kernel
theorem d_S_search_83 : decode prog_4_method_8_code 83 = .ok (.invokevirtual 65, 3) := by decide +kernel
theorem d_S_search_86 : decode prog_4_method_8_code 86 = .ok (.iinc 2 1, 3) := by decide +kernel
theorem d_S_search_89 : decode prog_4_method_8_code 89 = .ok (.goto (-53), 3) := by decide +kernel
theorem d_S_search_92 : decode prog_4_method_8_code 92 = .ok (.aload_n 0, 1) := by decide +kernel
theorem d_S_search_93 : decode prog_4_method_8_code 93 = .ok (.iload_n 1, 1) := by decide +kernel
theorem d_S_search_94 : decode prog_4_method_8_code 94 = .ok (.iload_n 1, 1) := by decide +kernel
theorem d_S_search_95 : decode prog_4_method_8_code 95 = .ok (.invokevirtual 65, 3) := by decide +kernel
theorem d_S_search_98 : decode prog_4_method_8_code 98 = .ok (.return_, 1) := by decide +kernel
theorem d_S_searchWith_0 : decode prog_4_method_9_code 0 = .ok (.aload_n 0, 1) := by decide +kernel
theorem d_S_searchWith_1 : decode prog_4_method_9_code 1 = .ok (.getfield 9, 3) := by decide +kernel
theorem d_S_searchWith_4 : decode prog_4_method_9_code 4 = .ok (.iload_n 1, 1) := by decide +kernel
theorem d_S_searchWith_5 : decode prog_4_method_9_code 5 = .ok (.iload_n 2, 1) := by decide +kernel
theorem d_S_searchWith_6 : decode prog_4_method_9_code 6 = .ok (.iastore, 1) := by decide +kernel
theorem d_S_searchWith_7 : decode prog_4_method_9_code 7 = .ok (.aload_n 0, 1) := by decide +kernel
theorem d_S_searchWith_8 : decode prog_4_method_9_code 8 = .ok (.getfield 9, 3) := by decide +kernel
theorem d_S_searchWith_11 : decode prog_4_method_9_code 11 = .ok (.iload_n 2, 1) := by decide +kernel
theorem d_S_searchWith_12 : decode prog_4_method_9_code 12 = .ok (.iload_n 1, 1) := by decide +kernel
theorem d_S_searchWith_13 : decode prog_4_method_9_code 13 = .ok (.iastore, 1) := by decide +kernel
theorem d_S_searchWith_14 : decode prog_4_method_9_code 14 = .ok (.aload_n 0, 1) := by decide +kernel
theorem d_S_searchWith_15 : decode prog_4_method_9_code 15 = .ok (.getfield 27, 3) := by decide +kernel
theorem d_S_searchWith_18 : decode prog_4_method_9_code 18 = .ok (.iload_n 1, 1) := by decide +kernel
theorem d_S_searchWith_19 : decode prog_4_method_9_code 19 = .ok (.aload_n 0, 1) := by decide +kernel
theorem d_S_searchWith_20 : decode prog_4_method_9_code 20 = .ok (.getfield 9, 3) := by decide +kernel
theorem d_S_searchWith_23 : decode prog_4_method_9_code 23 = .ok (.invokevirtual 69, 3) := by decide +kernel
theorem d_S_searchWith_26 : decode prog_4_method_9_code 26 = .ok (.ifCond .ne 25, 3) := by decide +kernel
theorem d_S_searchWith_29 : decode prog_4_method_9_code 29 = .ok (.aload_n 0, 1) := by decide +kernel
theorem d_S_searchWith_30 : decode prog_4_method_9_code 30 = .ok (.getfield 27, 3) := by decide +kernel
theorem d_S_searchWith_33 : decode prog_4_method_9_code 33 = .ok (.iload_n 2, 1) := by decide +kernel
theorem d_S_searchWith_34 : decode prog_4_method_9_code 34 = .ok (.aload_n 0, 1) := by decide +kernel
theorem d_S_searchWith_35 : decode prog_4_method_9_code 35 = .ok (.getfield 9, 3) := by decide +kernel
theorem d_S_searchWith_38 : decode prog_4_method_9_code 38 = .ok (.invokevirtual 69, 3) := by decide +kernel
theorem d_S_searchWith_41 : decode prog_4_method_9_code 41 = .ok (.ifCond .ne 10, 3) := by decide +kernel
theorem d_S_searchWith_44 : decode prog_4_method_9_code 44 = .ok (.aload_n 0, 1) := by decide +kernel
theorem d_S_searchWith_45 : decode prog_4_method_9_code 45 = .ok (.iload_n 1, 1) := by decide +kernel
theorem d_S_searchWith_46 : decode prog_4_method_9_code 46 = .ok (.iconst 1, 1) := by decide +kernel
theorem d_S_searchWith_47 : decode prog_4_method_9_code 47 = .ok (.iadd, 1) := by decide +kernel
theorem d_S_searchWith_48 : decode prog_4_method_9_code 48 = .ok (.invokevirtual 51, 3) := by decide +kernel
theorem d_S_searchWith_51 : decode prog_4_method_9_code 51 = .ok (.aload_n 0, 1) := by decide +kernel
theorem d_S_searchWith_52 : decode prog_4_method_9_code 52 = .ok (.getfield 9, 3) := by decide +kernel
theorem d_S_searchWith_55 : decode prog_4_method_9_code 55 = .ok (.iload_n 1, 1) := by decide +kernel
theorem d_S_searchWith_56 : decode prog_4_method_9_code 56 = .ok (.iconst (-1), 1) := by decide +kernel
theorem d_S_searchWith_57 : decode prog_4_method_9_code 57 = .ok (.iastore, 1) := by decide +kernel
theorem d_S_searchWith_58 : decode prog_4_method_9_code 58 = .ok (.aload_n 0, 1) := by decide +kernel
theorem d_S_searchWith_59 : decode prog_4_method_9_code 59 = .ok (.getfield 9, 3) := by decide +kernel
theorem d_S_searchWith_62 : decode prog_4_method_9_code 62 = .ok (.iload_n 2, 1) := by decide +kernel
theorem d_S_searchWith_63 : decode prog_4_method_9_code 63 = .ok (.iconst (-1), 1) := by decide +kernel
theorem d_S_searchWith_64 : decode prog_4_method_9_code 64 = .ok (.iastore, 1) := by decide +kernel
theorem d_S_searchWith_65 : decode prog_4_method_9_code 65 = .ok (.return_, 1) := by decide +kernel
theorem d_S_keep_0 : decode prog_4_method_10_code 0 = .ok (.aload_n 0, 1) := by decide +kernel
theorem d_S_keep_1 : decode prog_4_method_10_code 1 = .ok (.dup, 1) := by decide +kernel
theorem d_S_keep_2 : decode prog_4_method_10_code 2 = .ok (.getfield 34, 3) := by decide +kernel
theorem d_S_keep_5 : decode prog_4_method_10_code 5 = .ok (.iconst 1, 1) := by decide +kernel
theorem d_S_keep_6 : decode prog_4_method_10_code 6 = .ok (.iadd, 1) := by decide +kernel
theorem d_S_keep_7 : decode prog_4_method_10_code 7 = .ok (.putfield 34, 3) := by decide +kernel
theorem d_S_keep_10 : decode prog_4_method_10_code 10 = .ok (.iconst 0, 1) := by decide +kernel
theorem d_S_keep_11 : decode prog_4_method_10_code 11 = .ok (.istore_n 1, 1) := by decide +kernel
theorem d_S_keep_12 : decode prog_4_method_10_code 12 = .ok (.iload_n 1, 1) := by decide +kernel
theorem d_S_keep_13 : decode prog_4_method_10_code 13 = .ok (.aload_n 0, 1) := by decide +kernel
theorem d_S_keep_14 : decode prog_4_method_10_code 14 = .ok (.getfield 27, 3) := by decide +kernel
theorem d_S_keep_17 : decode prog_4_method_10_code 17 = .ok (.invokevirtual 55, 3) := by decide +kernel
theorem d_S_keep_20 : decode prog_4_method_10_code 20 = .ok (.if_icmp .ge 46, 3) := by decide +kernel
theorem d_S_keep_23 : decode prog_4_method_10_code 23 = .ok (.aload_n 0, 1) := by decide +kernel
theorem d_S_keep_24 : decode prog_4_method_10_code 24 = .ok (.getfield 20, 3) := by decide +kernel
theorem d_S_keep_27 : decode prog_4_method_10_code 27 = .ok (.iload_n 1, 1) := by decide +kernel
theorem d_S_keep_28 : decode prog_4_method_10_code 28 = .ok (.aaload, 1) := by decide +kernel
theorem d_S_keep_29 : decode prog_4_method_10_code 29 = .ok (.aload_n 0, 1) := by decide +kernel
theorem d_S_keep_30 : decode prog_4_method_10_code 30 = .ok (.getfield 9, 3) := by decide +kernel
theorem d_S_keep_33 : decode prog_4_method_10_code 33 = .ok (.iload_n 1, 1) := by decide +kernel
theorem d_S_keep_34 : decode prog_4_method_10_code 34 = .ok (.iaload, 1) := by decide +kernel
theorem d_S_keep_35 : decode prog_4_method_10_code 35 = .ok (.dup2, 1) := by decide +kernel
theorem d_S_keep_36 : decode prog_4_method_10_code 36 = .ok (.iaload, 1) := by decide +kernel
theorem d_S_keep_37 : decode prog_4_method_10_code 37 = .ok (.iconst 1, 1) := by decide +kernel
theorem d_S_keep_38 : decode prog_4_method_10_code 38 = .ok (.iadd, 1) := by decide +kernel
theorem d_S_keep_39 : decode prog_4_method_10_code 39 = .ok (.iastore, 1) := by decide +kernel
theorem d_S_keep_40 : decode prog_4_method_10_code 40 = .ok (.aload_n 0, 1) := by decide +kernel
theorem d_S_keep_41 : decode prog_4_method_10_code 41 = .ok (.getfield 34, 3) := by decide +kernel
theorem d_S_keep_44 : decode prog_4_method_10_code 44 = .ok (.iconst 1, 1) := by decide +kernel
theorem d_S_keep_45 : decode prog_4_method_10_code 45 = .ok (.if_icmp .ne 15, 3) := by decide +kernel
theorem d_S_keep_48 : decode prog_4_method_10_code 48 = .ok (.aload_n 0, 1) := by decide +kernel
theorem d_S_keep_49 : decode prog_4_method_10_code 49 = .ok (.getfield 15, 3) := by decide +kernel
theorem d_S_keep_52 : decode prog_4_method_10_code 52 = .ok (.iload_n 1, 1) := by decide +kernel
theorem d_S_keep_53 : decode prog_4_method_10_code 53 = .ok (.aload_n 0, 1) := by decide +kernel
theorem d_S_keep_54 : decode prog_4_method_10_code 54 = .ok (.getfield 9, 3) := by decide +kernel
theorem d_S_keep_57 : decode prog_4_method_10_code 57 = .ok (.iload_n 1, 1) := by decide +kernel
theorem d_S_keep_58 : decode prog_4_method_10_code 58 = .ok (.iaload, 1) := by decide +kernel
theorem d_S_keep_59 : decode prog_4_method_10_code 59 = .ok (.iastore, 1) := by decide +kernel
theorem d_S_keep_60 : decode prog_4_method_10_code 60 = .ok (.iinc 1 1, 3) := by decide +kernel
theorem d_S_keep_63 : decode prog_4_method_10_code 63 = .ok (.goto (-51), 3) := by decide +kernel
theorem d_S_keep_66 : decode prog_4_method_10_code 66 = .ok (.return_, 1) := by decide +kernel
end
section
/-! what stands where: W -/
theorem d_W_init_0 : decode prog_5_method_1_code 0 = .ok (.aload_n 0, 1) := by decide +kernel
theorem d_W_init_1 : decode prog_5_method_1_code 1 = .ok (.invokespecial 3, 3) := by decide +kernel
theorem d_W_init_4 : decode prog_5_method_1_code 4 = .ok (.aload_n 0, 1) := by decide +kernel
theorem d_W_init_5 : decode prog_5_method_1_code 5 = .ok (.bipush 8, 2) := by decide +kernel
theorem d_W_init_7 : decode prog_5_method_1_code 7 = .ok (.newarray .int, 2) := by decide +kernel
theorem d_W_init_9 : decode prog_5_method_1_code 9 = .ok (.putfield 9, 3) := by decide +kernel
theorem d_W_init_12 : decode prog_5_method_1_code 12 = .ok (.aload_n 0, 1) := by decide +kernel
theorem d_W_init_13 : decode prog_5_method_1_code 13 = .ok (.bipush 8, 2) := by decide +kernel
theorem d_W_init_15 : decode prog_5_method_1_code 15 = .ok (.bipush 8, 2) := by decide +kernel
theorem d_W_init_17 : decode prog_5_method_1_code 17 = .ok (.multianewarray 15 2, 4) := by decide +kernel
theorem d_W_init_21 : decode prog_5_method_1_code 21 = .ok (.putfield 17, 3) := by decide +kernel
theorem d_W_init_24 : decode prog_5_method_1_code 24 = .ok (.aload_n 0, 1) := by decide +kernel
theorem d_W_init_25 : decode prog_5_method_1_code 25 = .ok (.bipush 8, 2) := by decide +kernel
theorem d_W_init_27 : decode prog_5_method_1_code 27 = .ok (.bipush 8, 2) := by decide +kernel
theorem d_W_init_29 : decode prog_5_method_1_code 29 = .ok (.multianewarray 15 2, 4) := by decide +kernel
theorem d_W_init_33 : decode prog_5_method_1_code 33 = .ok (.putfield 20, 3) := by decide +kernel
theorem d_W_init_36 : decode prog_5_method_1_code 36 = .ok (.aload_n 0, 1) := by decide +kernel
theorem d_W_init_37 : decode prog_5_method_1_code 37 = .ok (.bipush 8, 2) := by decide +kernel
theorem d_W_init_39 : decode prog_5_method_1_code 39 = .ok (.bipush 8, 2) := by decide +kernel
theorem d_W_init_41 : decode prog_5_method_1_code 41 = .ok (.multianewarray 15 2, 4) := by decide +kernel
theorem d_W_init_45 : decode prog_5_method_1_code 45 = .ok (.putfield 23, 3) := by decide +kernel
theorem d_W_init_48 : decode prog_5_method_1_code 48 = .ok (.return_, 1) := by decide +kernel
theorem d_W_count_0 : decode prog_5_method_2_code 0 = .ok (.aload_n 0, 1) := by decide +kernel
theorem d_W_count_1 : decode prog_5_method_2_code 1 = .ok (.getfield 26, 3) := by decide +kernel
theorem d_W_count_4 : decode prog_5_method_2_code 4 = .ok (.ireturn, 1) := by decide +kernel
theorem d_W_changes_0 : decode prog_5_method_3_code 0 = .ok (.aload_n 0, 1) := by decide +kernel
theorem d_W_changes_1 : decode prog_5_method_3_code 1 = .ok (.getfield 30, 3) := by decide +kernel
theorem d_W_changes_4 : decode prog_5_method_3_code 4 = .ok (.ireturn, 1) := by decide +kernel
theorem d_W_length_0 : decode prog_5_method_4_code 0 = .ok (.aload_n 0, 1) := by decide +kernel
theorem d_W_length_1 : decode prog_5_method_4_code 1 = .ok (.getfield 9, 3) := by decide +kernel
theorem d_W_length_4 : decode prog_5_method_4_code 4 = .ok (.iload_n 1, 1) := by decide +kernel
theorem d_W_length_5 : decode prog_5_method_4_code 5 = .ok (.iaload, 1) := by decide +kernel
theorem d_W_length_6 : decode prog_5_method_4_code 6 = .ok (.ireturn, 1) := by decide +kernel
theorem d_W_otherAt_0 : decode prog_5_method_5_code 0 = .ok (.aload_n 0, 1) := by decide +kernel
theorem d_W_otherAt_1 : decode prog_5_method_5_code 1 = .ok (.getfield 17, 3) := by decide +kernel
theorem d_W_otherAt_4 : decode prog_5_method_5_code 4 = .ok (.iload_n 1, 1) := by decide +kernel
theorem d_W_otherAt_5 : decode prog_5_method_5_code 5 = .ok (.aaload, 1) := by decide +kernel
theorem d_W_otherAt_6 : decode prog_5_method_5_code 6 = .ok (.iload_n 2, 1) := by decide +kernel
theorem d_W_otherAt_7 : decode prog_5_method_5_code 7 = .ok (.iaload, 1) := by decide +kernel
theorem d_W_otherAt_8 : decode prog_5_method_5_code 8 = .ok (.ireturn, 1) := by decide +kernel
theorem d_W_placeOf_0 : decode prog_5_method_6_code 0 = .ok (.aload_n 0, 1) := by decide +kernel
theorem d_W_placeOf_1 : decode prog_5_method_6_code 1 = .ok (.getfield 20, 3) := by decide +kernel
theorem d_W_placeOf_4 : decode prog_5_method_6_code 4 = .ok (.iload_n 1, 1) := by decide +kernel
theorem d_W_placeOf_5 : decode prog_5_method_6_code 5 = .ok (.aaload, 1) := by decide +kernel
theorem d_W_placeOf_6 : decode prog_5_method_6_code 6 = .ok (.iload_n 2, 1) := by decide +kernel
theorem d_W_placeOf_7 : decode prog_5_method_6_code 7 = .ok (.iaload, 1) := by decide +kernel
theorem d_W_placeOf_8 : decode prog_5_method_6_code 8 = .ok (.ireturn, 1) := by decide +kernel
theorem d_W_clear_0 : decode prog_5_method_7_code 0 = .ok (.aload_n 0, 1) := by decide +kernel
theorem d_W_clear_1 : decode prog_5_method_7_code 1 = .ok (.iload_n 1, 1) := by decide +kernel
theorem d_W_clear_2 : decode prog_5_method_7_code 2 = .ok (.putfield 26, 3) := by decide +kernel
theorem d_W_clear_5 : decode prog_5_method_7_code 5 = .ok (.iconst 0, 1) := by decide +kernel
theorem d_W_clear_6 : decode prog_5_method_7_code 6 = .ok (.istore_n 2, 1) := by decide +kernel
theorem d_W_clear_7 : decode prog_5_method_7_code 7 = .ok (.iload_n 2, 1) := by decide +kernel
theorem d_W_clear_8 : decode prog_5_method_7_code 8 = .ok (.bipush 8, 2) := by decide +kernel
theorem d_W_clear_10 : decode prog_5_method_7_code 10 = .ok (.if_icmp .ge 59, 3) := by decide +kernel
theorem d_W_clear_13 : decode prog_5_method_7_code 13 = .ok (.aload_n 0, 1) := by decide +kernel
theorem d_W_clear_14 : decode prog_5_method_7_code 14 = .ok (.getfield 9, 3) := by decide +kernel
theorem d_W_clear_17 : decode prog_5_method_7_code 17 = .ok (.iload_n 2, 1) := by decide +kernel
theorem d_W_clear_18 : decode prog_5_method_7_code 18 = .ok (.iconst 0, 1) := by decide +kernel
theorem d_W_clear_19 : decode prog_5_method_7_code 19 = .ok (.iastore, 1) := by decide +kernel
theorem d_W_clear_20 : decode prog_5_method_7_code 20 = .ok (.iconst 0, 1) := by decide +kernel
theorem d_W_clear_21 : decode prog_5_method_7_code 21 = .ok (.istore_n 3, 1) := by decide +kernel
theorem d_W_clear_22 : decode prog_5_method_7_code 22 = .ok (.iload_n 3, 1) := by decide +kernel
theorem d_W_clear_23 : decode prog_5_method_7_code 23 = .ok (.bipush 8, 2) := by decide +kernel
theorem d_W_clear_25 : decode prog_5_method_7_code 25 = .ok (.if_icmp .ge 38, 3) := by decide +kernel
theorem d_W_clear_28 : decode prog_5_method_7_code 28 = .ok (.aload_n 0, 1) := by decide +kernel
theorem d_W_clear_29 : decode prog_5_method_7_code 29 = .ok (.getfield 20, 3) := by decide +kernel
theorem d_W_clear_32 : decode prog_5_method_7_code 32 = .ok (.iload_n 2, 1) := by decide +kernel
theorem d_W_clear_33 : decode prog_5_method_7_code 33 = .ok (.aaload, 1) := by decide +kernel
theorem d_W_clear_34 : decode prog_5_method_7_code 34 = .ok (.iload_n 3, 1) := by decide +kernel
theorem d_W_clear_35 : decode prog_5_method_7_code 35 = .ok (.iconst (-1), 1) := by decide +kernel
theorem d_W_clear_36 : decode prog_5_method_7_code 36 = .ok (.iastore, 1) := by decide +kernel
theorem d_W_clear_37 : decode prog_5_method_7_code 37 = .ok (.aload_n 0, 1) := by decide +kernel
theorem d_W_clear_38 : decode prog_5_method_7_code 38 = .ok (.getfield 23, 3) := by decide +kernel
theorem d_W_clear_41 : decode prog_5_method_7_code 41 = .ok (.iload_n 2, 1) := by decide +kernel
theorem d_W_clear_42 : decode prog_5_method_7_code 42 = .ok (.aaload, 1) := by decide +kernel
theorem d_W_clear_43 : decode prog_5_method_7_code 43 = .ok (.iload_n 3, 1) := by decide +kernel
theorem d_W_clear_44 : decode prog_5_method_7_code 44 = .ok (.iload_n 2, 1) := by decide +kernel
theorem d_W_clear_45 : decode prog_5_method_7_code 45 = .ok (.iload_n 3, 1) := by decide +kernel
theorem d_W_clear_46 : decode prog_5_method_7_code 46 = .ok (.if_icmp .ne 8, 3) := by decide +kernel
theorem d_W_clear_49 : decode prog_5_method_7_code 49 = .ok (.bipush 8, 2) := by decide +kernel
theorem d_W_clear_51 : decode prog_5_method_7_code 51 = .ok (.goto 5, 3) := by decide +kernel
theorem d_W_clear_54 : decode prog_5_method_7_code 54 = .ok (.bipush 9, 2) := by decide +kernel
theorem d_W_clear_56 : decode prog_5_method_7_code 56 = .ok (.iastore, 1) := by decide +kernel
theorem d_W_clear_57 : decode prog_5_method_7_code 57 = .ok (.iinc 3 1, 3) := by decide +kernel
theorem d_W_clear_60 : decode prog_5_method_7_code 60 = .ok (.goto (-38), 3) := by decide +kernel
theorem d_W_clear_63 : decode prog_5_method_7_code 63 = .ok (.iinc 2 1, 3) := by decide +kernel
theorem d_W_clear_66 : decode prog_5_method_7_code 66 = .ok (.goto (-59), 3) := by decide +kernel
theorem d_W_clear_69 : decode prog_5_method_7_code 69 = .ok (.aload_n 0, 1) := by decide +kernel
theorem d_W_clear_70 : decode prog_5_method_7_code 70 = .ok (.dup, 1) := by decide +kernel
theorem d_W_clear_71 : decode prog_5_method_7_code 71 = .ok (.getfield 30, 3) := by decide +kernel
theorem d_W_clear_74 : decode prog_5_method_7_code 74 = .ok (.iconst 1, 1) := by decide +kernel
theorem d_W_clear_75 : decode prog_5_method_7_code 75 = .ok (.iadd, 1) := by decide +kernel
theorem d_W_clear_76 : decode prog_5_method_7_code 76 = .ok (.putfield 30, 3) := by decide +kernel
theorem d_W_clear_79 : decode prog_5_method_7_code 79 = .ok (.return_, 1) := by decide +kernel
theorem d_W_append_0 : decode prog_5_method_8_code 0 = .ok (.aload_n 0, 1) := by decide +kernel
theorem d_W_append_1 : decode prog_5_method_8_code 1 = .ok (.getfield 9, 3) := by decide +kernel
theorem d_W_append_4 : decode prog_5_method_8_code 4 = .ok (.iload_n 1, 1) := by decide +kernel
theorem d_W_append_5 : decode prog_5_method_8_code 5 = .ok (.iaload, 1) := by decide +kernel
theorem d_W_append_6 : decode prog_5_method_8_code 6 = .ok (.istore_n 3, 1) := by decide +kernel
theorem d_W_append_7 : decode prog_5_method_8_code 7 = .ok (.aload_n 0, 1) := by decide +kernel
theorem d_W_append_8 : decode prog_5_method_8_code 8 = .ok (.getfield 9, 3) := by decide +kernel
theorem d_W_append_11 : decode prog_5_method_8_code 11 = .ok (.iload_n 1, 1) := by decide +kernel
theorem d_W_append_12 : decode prog_5_method_8_code 12 = .ok (.iload_n 3, 1) := by decide +kernel
theorem d_W_append_13 : decode prog_5_method_8_code 13 = .ok (.iconst 1, 1) := by decide +kernel
theorem d_W_append_14 : decode prog_5_method_8_code 14 = .ok (.iadd, 1) := by decide +kernel
theorem d_W_append_15 : decode prog_5_method_8_code 15 = .ok (.iastore, 1) := by decide +kernel
theorem d_W_append_16 : decode prog_5_method_8_code 16 = .ok (.aload_n 0, 1) := by decide +kernel
theorem d_W_append_17 : decode prog_5_method_8_code 17 = .ok (.iload_n 1, 1) := by decide +kernel
theorem d_W_append_18 : decode prog_5_method_8_code 18 = .ok (.iload_n 3, 1) := by decide +kernel
theorem d_W_append_19 : decode prog_5_method_8_code 19 = .ok (.iload_n 2, 1) := by decide +kernel
theorem d_W_append_20 : decode prog_5_method_8_code 20 = .ok (.invokevirtual 33, 3) := by decide +kernel
theorem d_W_append_23 : decode prog_5_method_8_code 23 = .ok (.aload_n 0, 1) := by decide +kernel
theorem d_W_append_24 : decode prog_5_method_8_code 24 = .ok (.iload_n 1, 1) := by decide +kernel
theorem d_W_append_25 : decode prog_5_method_8_code 25 = .ok (.invokevirtual 37, 3) := by decide +kernel
theorem d_W_append_28 : decode prog_5_method_8_code 28 = .ok (.return_, 1) := by decide +kernel
theorem d_W_cut_0 : decode prog_5_method_9_code 0 = .ok (.aload_n 0, 1) := by decide +kernel
theorem d_W_cut_1 : decode prog_5_method_9_code 1 = .ok (.getfield 9, 3) := by decide +kernel
theorem d_W_cut_4 : decode prog_5_method_9_code 4 = .ok (.iload_n 1, 1) := by decide +kernel
theorem d_W_cut_5 : decode prog_5_method_9_code 5 = .ok (.iaload, 1) := by decide +kernel
theorem d_W_cut_6 : decode prog_5_method_9_code 6 = .ok (.iconst 1, 1) := by decide +kernel
theorem d_W_cut_7 : decode prog_5_method_9_code 7 = .ok (.isub, 1) := by decide +kernel
theorem d_W_cut_8 : decode prog_5_method_9_code 8 = .ok (.istore_n 3, 1) := by decide +kernel
theorem d_W_cut_9 : decode prog_5_method_9_code 9 = .ok (.aload_n 0, 1) := by decide +kernel
theorem d_W_cut_10 : decode prog_5_method_9_code 10 = .ok (.getfield 17, 3) := by decide +kernel
theorem d_W_cut_13 : decode prog_5_method_9_code 13 = .ok (.iload_n 1, 1) := by decide +kernel
theorem d_W_cut_14 : decode prog_5_method_9_code 14 = .ok (.aaload, 1) := by decide +kernel
theorem d_W_cut_15 : decode prog_5_method_9_code 15 = .ok (.iload_n 2, 1) := by decide +kernel
theorem d_W_cut_16 : decode prog_5_method_9_code 16 = .ok (.iaload, 1) := by decide +kernel
theorem d_W_cut_17 : decode prog_5_method_9_code 17 = .ok (.istore 4, 2) := by decide +kernel
theorem d_W_cut_19 : decode prog_5_method_9_code 19 = .ok (.aload_n 0, 1) := by decide +kernel
theorem d_W_cut_20 : decode prog_5_method_9_code 20 = .ok (.iload_n 1, 1) := by decide +kernel
theorem d_W_cut_21 : decode prog_5_method_9_code 21 = .ok (.iload_n 2, 1) := by decide +kernel
theorem d_W_cut_22 : decode prog_5_method_9_code 22 = .ok (.iload_n 3, 1) := by decide +kernel
theorem d_W_cut_23 : decode prog_5_method_9_code 23 = .ok (.invokevirtual 41, 3) := by decide +kernel
theorem d_W_cut_26 : decode prog_5_method_9_code 26 = .ok (.aload_n 0, 1) := by decide +kernel
theorem d_W_cut_27 : decode prog_5_method_9_code 27 = .ok (.getfield 9, 3) := by decide +kernel
theorem d_W_cut_30 : decode prog_5_method_9_code 30 = .ok (.iload_n 1, 1) := by decide +kernel
theorem d_W_cut_31 : decode prog_5_method_9_code 31 = .ok (.iload_n 3, 1) := by decide +kernel
theorem d_W_cut_32 : decode prog_5_method_9_code 32 = .ok (.iastore, 1) := by decide +kernel
theorem d_W_cut_33 : decode prog_5_method_9_code 33 = .ok (.aload_n 0, 1) := by decide +kernel
theorem d_W_cut_34 : decode prog_5_method_9_code 34 = .ok (.getfield 20, 3) := by decide +kernel
theorem d_W_cut_37 : decode prog_5_method_9_code 37 = .ok (.iload_n 1, 1) := by decide +kernel
theorem d_W_cut_38 : decode prog_5_method_9_code 38 = .ok (.aaload, 1) := by decide +kernel
theorem d_W_cut_39 : decode prog_5_method_9_code 39 = .ok (.iload 4, 2) := by decide +kernel
theorem d_W_cut_41 : decode prog_5_method_9_code 41 = .ok (.iconst (-1), 1) := by decide +kernel
theorem d_W_cut_42 : decode prog_5_method_9_code 42 = .ok (.iastore, 1) := by decide +kernel
theorem d_W_cut_43 : decode prog_5_method_9_code 43 = .ok (.aload_n 0, 1) := by decide +kernel
theorem d_W_cut_44 : decode prog_5_method_9_code 44 = .ok (.iload_n 1, 1) := by decide +kernel
theorem d_W_cut_45 : decode prog_5_method_9_code 45 = .ok (.invokevirtual 37, 3) := by decide +kernel
theorem d_W_cut_48 : decode prog_5_method_9_code 48 = .ok (.return_, 1) := by decide +kernel
theorem d_W_shift_0 : decode prog_5_method_10_code 0 = .ok (.aload_n 0, 1) := by decide +kernel
theorem d_W_shift_1 : decode prog_5_method_10_code 1 = .ok (.iload_n 1, 1) := by decide +kernel
theorem d_W_shift_2 : decode prog_5_method_10_code 2 = .ok (.iload_n 2, 1) := by decide +kernel
theorem d_W_shift_3 : decode prog_5_method_10_code 3 = .ok (.iload_n 3, 1) := by decide +kernel
theorem d_W_shift_4 : decode prog_5_method_10_code 4 = .ok (.invokevirtual 41, 3) := by decide +kernel
theorem d_W_shift_7 : decode prog_5_method_10_code 7 = .ok (.aload_n 0, 1) := by decide +kernel
theorem d_W_shift_8 : decode prog_5_method_10_code 8 = .ok (.iload_n 1, 1) := by decide +kernel
theorem d_W_shift_9 : decode prog_5_method_10_code 9 = .ok (.invokevirtual 37, 3) := by decide +kernel
theorem d_W_shift_12 : decode prog_5_method_10_code 12 = .ok (.return_, 1) := by decide +kernel
theorem d_W_slide_0 : decode prog_5_method_11_code 0 = .ok (.aload_n 0, 1) := by decide +kernel
theorem d_W_slide_1 : decode prog_5_method_11_code 1 = .ok (.getfield 17, 3) := by decide +kernel
theorem d_W_slide_4 : decode prog_5_method_11_code 4 = .ok (.iload_n 1, 1) := by decide +kernel
theorem d_W_slide_5 : decode prog_5_method_11_code 5 = .ok (.aaload, 1) := by decide +kernel
theorem d_W_slide_6 : decode prog_5_method_11_code 6 = .ok (.iload_n 2, 1) := by decide +kernel
theorem d_W_slide_7 : decode prog_5_method_11_code 7 = .ok (.iaload, 1) := by decide +kernel
theorem d_W_slide_8 : decode prog_5_method_11_code 8 = .ok (.istore 4, 2) := by decide +kernel
theorem d_W_slide_10 : decode prog_5_method_11_code 10 = .ok (.iload_n 2, 1) := by decide +kernel
theorem d_W_slide_11 : decode prog_5_method_11_code 11 = .ok (.istore 5, 2) := by decide +kernel
theorem d_W_slide_13 : decode prog_5_method_11_code 13 = .ok (.iload 5, 2) := by decide +kernel
theorem d_W_slide_15 : decode prog_5_method_11_code 15 = .ok (.iload_n 3, 1) := by decide +kernel
theorem d_W_slide_16 : decode prog_5_method_11_code 16 = .ok (.if_icmp .ge 27, 3) := by decide +kernel
theorem d_W_slide_19 : decode prog_5_method_11_code 19 = .ok (.aload_n 0, 1) := by decide +kernel
theorem d_W_slide_20 : decode prog_5_method_11_code 20 = .ok (.iload_n 1, 1) := by decide +kernel
theorem d_W_slide_21 : decode prog_5_method_11_code 21 = .ok (.iload 5, 2) := by decide +kernel
theorem d_W_slide_23 : decode prog_5_method_11_code 23 = .ok (.aload_n 0, 1) := by decide +kernel
theorem d_W_slide_24 : decode prog_5_method_11_code 24 = .ok (.getfield 17, 3) := by decide +kernel
theorem d_W_slide_27 : decode prog_5_method_11_code 27 = .ok (.iload_n 1, 1) := by decide +kernel
theorem d_W_slide_28 : decode prog_5_method_11_code 28 = .ok (.aaload, 1) := by decide +kernel
theorem d_W_slide_29 : decode prog_5_method_11_code 29 = .ok (.iload 5, 2) := by decide +kernel
theorem d_W_slide_31 : decode prog_5_method_11_code 31 = .ok (.iconst 1, 1) := by decide +kernel
theorem d_W_slide_32 : decode prog_5_method_11_code 32 = .ok (.iadd, 1) := by decide +kernel
theorem d_W_slide_33 : decode prog_5_method_11_code 33 = .ok (.iaload, 1) := by decide +kernel
theorem d_W_slide_34 : decode prog_5_method_11_code 34 = .ok (.invokevirtual 33, 3) := by decide +kernel
theorem d_W_slide_37 : decode prog_5_method_11_code 37 = .ok (.iinc 5 1, 3) := by decide +kernel
theorem d_W_slide_40 : decode prog_5_method_11_code 40 = .ok (.goto (-27), 3) := by decide +kernel
theorem d_W_slide_43 : decode prog_5_method_11_code 43 = .ok (.iload_n 2, 1) := by decide +kernel
theorem d_W_slide_44 : decode prog_5_method_11_code 44 = .ok (.istore 5, 2) := by decide +kernel
theorem d_W_slide_46 : decode prog_5_method_11_code 46 = .ok (.iload 5, 2) := by decide +kernel
theorem d_W_slide_48 : decode prog_5_method_11_code 48 = .ok (.iload_n 3, 1) := by decide +kernel
theorem d_W_slide_49 : decode prog_5_method_11_code 49 = .ok (.if_icmp .le 27, 3) := by decide +kernel
theorem d_W_slide_52 : decode prog_5_method_11_code 52 = .ok (.aload_n 0, 1) := by decide +kernel
theorem d_W_slide_53 : decode prog_5_method_11_code 53 = .ok (.iload_n 1, 1) := by decide +kernel
theorem d_W_slide_54 : decode prog_5_method_11_code 54 = .ok (.iload 5, 2) := by decide +kernel
theorem d_W_slide_56 : decode prog_5_method_11_code 56 = .ok (.aload_n 0, 1) := by decide +kernel
theorem d_W_slide_57 : decode prog_5_method_11_code 57 = .ok (.getfield 17, 3) := by decide +kernel
theorem d_W_slide_60 : decode prog_5_method_11_code 60 = .ok (.iload_n 1, 1) := by decide +kernel
theorem d_W_slide_61 : decode prog_5_method_11_code 61 = .ok (.aaload, 1) := by decide +kernel
theorem d_W_slide_62 : decode prog_5_method_11_code 62 = .ok (.iload 5, 2) := by decide +kernel
theorem d_W_slide_64 : decode prog_5_method_11_code 64 = .ok (.iconst 1, 1) := by decide +kernel
theorem d_W_slide_65 : decode prog_5_method_11_code 65 = .ok (.isub, 1) := by decide +kernel
theorem d_W_slide_66 : decode prog_5_method_11_code 66 = .ok (.iaload, 1) := by decide +kernel
theorem d_W_slide_67 : decode prog_5_method_11_code 67 = .ok (.invokevirtual 33, 3) := by decide +kernel
theorem d_W_slide_70 : decode prog_5_method_11_code 70 = .ok (.iinc 5 (-1), 3) := by decide +kernel
theorem d_W_slide_73 : decode prog_5_method_11_code 73 = .ok (.goto (-27), 3) := by decide +kernel
theorem d_W_slide_76 : decode prog_5_method_11_code 76 = .ok (.aload_n 0, 1) := by decide +kernel
theorem d_W_slide_77 : decode prog_5_method_11_code 77 = .ok (.iload_n 1, 1) := by decide +kernel
theorem d_W_slide_78 : decode prog_5_method_11_code 78 = .ok (.iload_n 3, 1) := by decide +kernel
theorem d_W_slide_79 : decode prog_5_method_11_code 79 = .ok (.iload 4, 2) := by decide +kernel
theorem d_W_slide_81 : decode prog_5_method_11_code 81 = .ok (.invokevirtual 33, 3) := by decide +kernel
theorem d_W_slide_84 : decode prog_5_method_11_code 84 = .ok (.return_, 1) := by decide +kernel
theorem d_W_set_0 : decode prog_5_method_12_code 0 = .ok (.aload_n 0, 1) := by decide +kernel
theorem d_W_set_1 : decode prog_5_method_12_code 1 = .ok (.getfield 17, 3) := by decide +kernel
theorem d_W_set_4 : decode prog_5_method_12_code 4 = .ok (.iload_n 1, 1) := by decide +kernel
theorem d_W_set_5 : decode prog_5_method_12_code 5 = .ok (.aaload, 1) := by decide +kernel
theorem d_W_set_6 : decode prog_5_method_12_code 6 = .ok (.iload_n 2, 1) := by decide +kernel
theorem d_W_set_7 : decode prog_5_method_12_code 7 = .ok (.iload_n 3, 1) := by decide +kernel
theorem d_W_set_8 : decode prog_5_method_12_code 8 = .ok (.iastore, 1) := by decide +kernel
theorem d_W_set_9 : decode prog_5_method_12_code 9 = .ok (.aload_n 0, 1) := by decide +kernel
theorem d_W_set_10 : decode prog_5_method_12_code 10 = .ok (.getfield 20, 3) := by decide +kernel
theorem d_W_set_13 : decode prog_5_method_12_code 13 = .ok (.iload_n 1, 1) := by decide +kernel
theorem d_W_set_14 : decode prog_5_method_12_code 14 = .ok (.aaload, 1) := by decide +kernel
theorem d_W_set_15 : decode prog_5_method_12_code 15 = .ok (.iload_n 3, 1) := by decide +kernel
theorem d_W_set_16 : decode prog_5_method_12_code 16 = .ok (.iload_n 2, 1) := by decide +kernel
theorem d_W_set_17 : decode prog_5_method_12_code 17 = .ok (.iastore, 1) := by decide +kernel
theorem d_W_set_18 : decode prog_5_method_12_code 18 = .ok (.return_, 1) := by decide +kernel
theorem d_W_noteChange_0 : decode prog_5_method_13_code 0 = .ok (.iconst 0, 1) := by decide +kernel
theorem d_W_noteChange_1 : decode prog_5_method_13_code 1 = .ok (.istore_n 2, 1) := by decide +kernel
theorem d_W_noteChange_2 : decode prog_5_method_13_code 2 = .ok (.iload_n 2, 1) := by decide +kernel
theorem d_W_noteChange_3 : decode prog_5_method_13_code 3 = .ok (.bipush 8, 2) := by decide +kernel
theorem d_W_noteChange_5 : decode prog_5_method_13_code 5 = .ok (.if_icmp .ge 94, 3) := by decide +kernel
theorem d_W_noteChange_8 : decode prog_5_method_13_code 8 = .ok (.iload_n 2, 1) := by decide +kernel
theorem d_W_noteChange_9 : decode prog_5_method_13_code 9 = .ok (.iload_n 1, 1) := by decide +kernel
theorem d_W_noteChange_10 : decode prog_5_method_13_code 10 = .ok (.if_icmp .eq 83, 3) := by decide +kernel
theorem d_W_noteChange_13 : decode prog_5_method_13_code 13 = .ok (.aload_n 0, 1) := by decide +kernel
theorem d_W_noteChange_14 : decode prog_5_method_13_code 14 = .ok (.getfield 20, 3) := by decide +kernel
theorem d_W_noteChange_17 : decode prog_5_method_13_code 17 = .ok (.iload_n 1, 1) := by decide +kernel
theorem d_W_noteChange_18 : decode prog_5_method_13_code 18 = .ok (.aaload, 1) := by decide +kernel
theorem d_W_noteChange_19 : decode prog_5_method_13_code 19 = .ok (.iload_n 2, 1) := by decide +kernel
theorem d_W_noteChange_20 : decode prog_5_method_13_code 20 = .ok (.iaload, 1) := by decide +kernel
theorem d_W_noteChange_21 : decode prog_5_method_13_code 21 = .ok (.iconst (-1), 1) := by decide +kernel
theorem d_W_noteChange_22 : decode prog_5_method_13_code 22 = .ok (.if_icmp .eq 19, 3) := by decide +kernel
theorem d_W_noteChange_25 : decode prog_5_method_13_code 25 = .ok (.aload_n 0, 1) := by decide +kernel
theorem d_W_noteChange_26 : decode prog_5_method_13_code 26 = .ok (.getfield 20, 3) := by decide +kernel
theorem d_W_noteChange_29 : decode prog_5_method_13_code 29 = .ok (.iload_n 2, 1) := by decide +kernel
theorem d_W_noteChange_30 : decode prog_5_method_13_code 30 = .ok (.aaload, 1) := by decide +kernel
theorem d_W_noteChange_31 : decode prog_5_method_13_code 31 = .ok (.iload_n 1, 1) := by decide +kernel
theorem d_W_noteChange_32 : decode prog_5_method_13_code 32 = .ok (.iaload, 1) := by decide +kernel
theorem d_W_noteChange_33 : decode prog_5_method_13_code 33 = .ok (.iconst (-1), 1) := by decide +kernel
theorem d_W_noteChange_34 : decode prog_5_method_13_code 34 = .ok (.if_icmp .eq 7, 3) := by decide +kernel
theorem d_W_noteChange_37 : decode prog_5_method_13_code 37 = .ok (.iconst 1, 1) := by decide +kernel
theorem d_W_noteChange_38 : decode prog_5_method_13_code 38 = .ok (.goto 4, 3) := by decide +kernel
theorem d_W_noteChange_41 : decode prog_5_method_13_code 41 = .ok (.iconst 0, 1) := by decide +kernel
theorem d_W_noteChange_42 : decode prog_5_method_13_code 42 = .ok (.istore_n 3, 1) := by decide +kernel
theorem d_W_noteChange_43 : decode prog_5_method_13_code 43 = .ok (.aload_n 0, 1) := by decide +kernel
theorem d_W_noteChange_44 : decode prog_5_method_13_code 44 = .ok (.getfield 23, 3) := by decide +kernel
theorem d_W_noteChange_47 : decode prog_5_method_13_code 47 = .ok (.iload_n 1, 1) := by decide +kernel
theorem d_W_noteChange_48 : decode prog_5_method_13_code 48 = .ok (.aaload, 1) := by decide +kernel
theorem d_W_noteChange_49 : decode prog_5_method_13_code 49 = .ok (.iload_n 2, 1) := by decide +kernel
theorem d_W_noteChange_50 : decode prog_5_method_13_code 50 = .ok (.iload_n 3, 1) := by decide +kernel
theorem d_W_noteChange_51 : decode prog_5_method_13_code 51 = .ok (.ifCond .eq 14, 3) := by decide +kernel
theorem d_W_noteChange_54 : decode prog_5_method_13_code 54 = .ok (.aload_n 0, 1) := by decide +kernel
theorem d_W_noteChange_55 : decode prog_5_method_13_code 55 = .ok (.getfield 20, 3) := by decide +kernel
theorem d_W_noteChange_58 : decode prog_5_method_13_code 58 = .ok (.iload_n 1, 1) := by decide +kernel
theorem d_W_noteChange_59 : decode prog_5_method_13_code 59 = .ok (.aaload, 1) := by decide +kernel
theorem d_W_noteChange_60 : decode prog_5_method_13_code 60 = .ok (.iload_n 2, 1) := by decide +kernel
theorem d_W_noteChange_61 : decode prog_5_method_13_code 61 = .ok (.iaload, 1) := by decide +kernel
theorem d_W_noteChange_62 : decode prog_5_method_13_code 62 = .ok (.goto 5, 3) := by decide +kernel
theorem d_W_noteChange_65 : decode prog_5_method_13_code 65 = .ok (.bipush 9, 2) := by decide +kernel
theorem d_W_noteChange_67 : decode prog_5_method_13_code 67 = .ok (.iastore, 1) := by decide +kernel
theorem d_W_noteChange_68 : decode prog_5_method_13_code 68 = .ok (.aload_n 0, 1) := by decide +kernel
theorem d_W_noteChange_69 : decode prog_5_method_13_code 69 = .ok (.getfield 23, 3) := by decide +kernel
theorem d_W_noteChange_72 : decode prog_5_method_13_code 72 = .ok (.iload_n 2, 1) := by decide +kernel
theorem d_W_noteChange_73 : decode prog_5_method_13_code 73 = .ok (.aaload, 1) := by decide +kernel
theorem d_W_noteChange_74 : decode prog_5_method_13_code 74 = .ok (.iload_n 1, 1) := by decide +kernel
theorem d_W_noteChange_75 : decode prog_5_method_13_code 75 = .ok (.iload_n 3, 1) := by decide +kernel
theorem d_W_noteChange_76 : decode prog_5_method_13_code 76 = .ok (.ifCond .eq 14, 3) := by decide +kernel
theorem d_W_noteChange_79 : decode prog_5_method_13_code 79 = .ok (.aload_n 0, 1) := by decide +kernel
theorem d_W_noteChange_80 : decode prog_5_method_13_code 80 = .ok (.getfield 20, 3) := by decide +kernel
theorem d_W_noteChange_83 : decode prog_5_method_13_code 83 = .ok (.iload_n 2, 1) := by decide +kernel
theorem d_W_noteChange_84 : decode prog_5_method_13_code 84 = .ok (.aaload, 1) := by decide +kernel
theorem d_W_noteChange_85 : decode prog_5_method_13_code 85 = .ok (.iload_n 1, 1) := by decide +kernel
theorem d_W_noteChange_86 : decode prog_5_method_13_code 86 = .ok (.iaload, 1) := by decide +kernel
theorem d_W_noteChange_87 : decode prog_5_method_13_code 87 = .ok (.goto 5, 3) := by decide +kernel
theorem d_W_noteChange_90 : decode prog_5_method_13_code 90 = .ok (.bipush 9, 2) := by decide +kernel
theorem d_W_noteChange_92 : decode prog_5_method_13_code 92 = .ok (.iastore, 1) := by decide +kernel
theorem d_W_noteChange_93 : decode prog_5_method_13_code 93 = .ok (.iinc 2 1, 3) := by decide +kernel
theorem d_W_noteChange_96 : decode prog_5_method_13_code 96 = .ok (.goto (-94), 3) := by decide +kernel
theorem d_W_noteChange_99 : decode prog_5_method_13_code 99 = .ok (.aload_n 0, 1) := by decide +kernel
theorem d_W_noteChange_100 : decode prog_5_method_13_code 100 = .ok (.dup, 1) := by decide +kernel
theorem d_W_noteChange_101 : decode prog_5_method_13_code 101 = .ok (.getfield 30, 3) := by decide +kernel
theorem d_W_noteChange_104 : decode prog_5_method_13_code 104 = .ok (.iconst 1, 1) := by decide +kernel
theorem d_W_noteChange_105 : decode prog_5_method_13_code 105 = .ok (.iadd, 1) := by decide +kernel
theorem d_W_noteChange_106 : decode prog_5_method_13_code 106 = .ok (.putfield 30, 3) := by decide +kernel
theorem d_W_noteChange_109 : decode prog_5_method_13_code 109 = .ok (.return_, 1) := by decide +kernel
theorem d_W_arePossible_0 : decode prog_5_method_14_code 0 = .ok (.aload_n 0, 1) := by decide +kernel
theorem d_W_arePossible_1 : decode prog_5_method_14_code 1 = .ok (.getfield 23, 3) := by decide +kernel
theorem d_W_arePossible_4 : decode prog_5_method_14_code 4 = .ok (.iload_n 1, 1) := by decide +kernel
theorem d_W_arePossible_5 : decode prog_5_method_14_code 5 = .ok (.aaload, 1) := by decide +kernel
theorem d_W_arePossible_6 : decode prog_5_method_14_code 6 = .ok (.iload_n 2, 1) := by decide +kernel
theorem d_W_arePossible_7 : decode prog_5_method_14_code 7 = .ok (.iaload, 1) := by decide +kernel
theorem d_W_arePossible_8 : decode prog_5_method_14_code 8 = .ok (.bipush 8, 2) := by decide +kernel
theorem d_W_arePossible_10 : decode prog_5_method_14_code 10 = .ok (.if_icmp .ge 7, 3) := by decide +kernel
theorem d_W_arePossible_13 : decode prog_5_method_14_code 13 = .ok (.iconst 1, 1) := by decide +kernel
theorem d_W_arePossible_14 : decode prog_5_method_14_code 14 = .ok (.goto 4, 3) := by decide +kernel
theorem d_W_arePossible_17 : decode prog_5_method_14_code 17 = .ok (.iconst 0, 1) := by decide +kernel
theorem d_W_arePossible_18 : decode prog_5_method_14_code 18 = .ok (.ireturn, 1) := by decide +kernel
theorem d_W_prefers_0 : decode prog_5_method_15_code 0 = .ok (.aload_n 0, 1) := by decide +kernel
theorem d_W_prefers_1 : decode prog_5_method_15_code 1 = .ok (.getfield 23, 3) := by decide +kernel
theorem d_W_prefers_4 : decode prog_5_method_15_code 4 = .ok (.iload_n 1, 1) := by decide +kernel
theorem d_W_prefers_5 : decode prog_5_method_15_code 5 = .ok (.aaload, 1) := by decide +kernel
theorem d_W_prefers_6 : decode prog_5_method_15_code 6 = .ok (.iload_n 2, 1) := by decide +kernel
theorem d_W_prefers_7 : decode prog_5_method_15_code 7 = .ok (.iaload, 1) := by decide +kernel
theorem d_W_prefers_8 : decode prog_5_method_15_code 8 = .ok (.aload_n 0, 1) := by decide +kernel
theorem d_W_prefers_9 : decode prog_5_method_15_code 9 = .ok (.getfield 23, 3) := by decide +kernel
theorem d_W_prefers_12 : decode prog_5_method_15_code 12 = .ok (.iload_n 1, 1) := by decide +kernel
theorem d_W_prefers_13 : decode prog_5_method_15_code 13 = .ok (.aaload, 1) := by decide +kernel
theorem d_W_prefers_14 : decode prog_5_method_15_code 14 = .ok (.iload_n 3, 1) := by decide +kernel
theorem d_W_prefers_15 : decode prog_5_method_15_code 15 = .ok (.iaload, 1) := by decide +kernel
theorem d_W_prefers_16 : decode prog_5_method_15_code 16 = .ok (.if_icmp .ge 7, 3) := by decide +kernel
theorem d_W_prefers_19 : decode prog_5_method_15_code 19 = .ok (.iconst 1, 1) := by decide +kernel
theorem d_W_prefers_20 : decode prog_5_method_15_code 20 = .ok (.goto 4, 3) := by decide +kernel
theorem d_W_prefers_23 : decode prog_5_method_15_code 23 = .ok (.iconst 0, 1) := by decide +kernel
theorem d_W_prefers_24 : decode prog_5_method_15_code 24 = .ok (.ireturn, 1) := by decide +kernel
theorem d_W_wouldBlock_0 : decode prog_5_method_16_code 0 = .ok (.aload_n 0, 1) := by decide +kernel
theorem d_W_wouldBlock_1 : decode prog_5_method_16_code 1 = .ok (.getfield 23, 3) := by decide +kernel
theorem d_W_wouldBlock_4 : decode prog_5_method_16_code 4 = .ok (.iload_n 1, 1) := by decide +kernel
theorem d_W_wouldBlock_5 : decode prog_5_method_16_code 5 = .ok (.aaload, 1) := by decide +kernel
theorem d_W_wouldBlock_6 : decode prog_5_method_16_code 6 = .ok (.iload_n 2, 1) := by decide +kernel
theorem d_W_wouldBlock_7 : decode prog_5_method_16_code 7 = .ok (.iaload, 1) := by decide +kernel
theorem d_W_wouldBlock_8 : decode prog_5_method_16_code 8 = .ok (.aload_n 0, 1) := by decide +kernel
theorem d_W_wouldBlock_9 : decode prog_5_method_16_code 9 = .ok (.getfield 23, 3) := by decide +kernel
theorem d_W_wouldBlock_12 : decode prog_5_method_16_code 12 = .ok (.iload_n 1, 1) := by decide +kernel
theorem d_W_wouldBlock_13 : decode prog_5_method_16_code 13 = .ok (.aaload, 1) := by decide +kernel
theorem d_W_wouldBlock_14 : decode prog_5_method_16_code 14 = .ok (.aload_n 3, 1) := by decide +kernel
theorem d_W_wouldBlock_15 : decode prog_5_method_16_code 15 = .ok (.iload_n 1, 1) := by decide +kernel
theorem d_W_wouldBlock_16 : decode prog_5_method_16_code 16 = .ok (.iaload, 1) := by decide +kernel
theorem d_W_wouldBlock_17 : decode prog_5_method_16_code 17 = .ok (.iaload, 1) := by decide +kernel
theorem d_W_wouldBlock_18 : decode prog_5_method_16_code 18 = .ok (.if_icmp .ge 28, 3) := by decide +kernel
theorem d_W_wouldBlock_21 : decode prog_5_method_16_code 21 = .ok (.aload_n 0, 1) := by decide +kernel
theorem d_W_wouldBlock_22 : decode prog_5_method_16_code 22 = .ok (.getfield 23, 3) := by decide +kernel
theorem d_W_wouldBlock_25 : decode prog_5_method_16_code 25 = .ok (.iload_n 2, 1) := by decide +kernel
theorem d_W_wouldBlock_26 : decode prog_5_method_16_code 26 = .ok (.aaload, 1) := by decide +kernel
theorem d_W_wouldBlock_27 : decode prog_5_method_16_code 27 = .ok (.iload_n 1, 1) := by decide +kernel
theorem d_W_wouldBlock_28 : decode prog_5_method_16_code 28 = .ok (.iaload, 1) := by decide +kernel
theorem d_W_wouldBlock_29 : decode prog_5_method_16_code 29 = .ok (.aload_n 0, 1) := by decide +kernel
theorem d_W_wouldBlock_30 : decode prog_5_method_16_code 30 = .ok (.getfield 23, 3) := by decide +kernel
theorem d_W_wouldBlock_33 : decode prog_5_method_16_code 33 = .ok (.iload_n 2, 1) := by decide +kernel
theorem d_W_wouldBlock_34 : decode prog_5_method_16_code 34 = .ok (.aaload, 1) := by decide +kernel
theorem d_W_wouldBlock_35 : decode prog_5_method_16_code 35 = .ok (.aload_n 3, 1) := by decide +kernel
theorem d_W_wouldBlock_36 : decode prog_5_method_16_code 36 = .ok (.iload_n 2, 1) := by decide +kernel
theorem d_W_wouldBlock_37 : decode prog_5_method_16_code 37 = .ok (.iaload, 1) := by decide +kernel
theorem d_W_wouldBlock_38 : decode prog_5_method_16_code 38 = .ok (.iaload, 1) := by decide +kernel
theorem d_W_wouldBlock_39 : decode prog_5_method_16_code 39 = .ok (.if_icmp .ge 7, 3) := by decide +kernel
theorem d_W_wouldBlock_42 : decode prog_5_method_16_code 42 = .ok (.iconst 1, 1) := by decide +kernel
theorem d_W_wouldBlock_43 : decode prog_5_method_16_code 43 = .ok (.goto 4, 3) := by decide +kernel
theorem d_W_wouldBlock_46 : decode prog_5_method_16_code 46 = .ok (.iconst 0, 1) := by decide +kernel
theorem d_W_wouldBlock_47 : decode prog_5_method_16_code 47 = .ok (.ireturn, 1) := by decide +kernel
theorem d_W_wouldBlockWithAny_0 : decode prog_5_method_17_code 0 = .ok (.iconst 0, 1) := by decide +kernel
theorem d_W_wouldBlockWithAny_1 : decode prog_5_method_17_code 1 = .ok (.istore_n 3, 1) := by decide +kernel
theorem d_W_wouldBlockWithAny_2 : decode prog_5_method_17_code 2 = .ok (.iload_n 3, 1) := by decide +kernel
theorem d_W_wouldBlockWithAny_3 : decode prog_5_method_17_code 3 = .ok (.aload_n 0, 1) := by decide +kernel
theorem d_W_wouldBlockWithAny_4 : decode prog_5_method_17_code 4 = .ok (.getfield 26, 3) := by decide +kernel
theorem d_W_wouldBlockWithAny_7 : decode prog_5_method_17_code 7 = .ok (.if_icmp .ge 28, 3) := by decide +kernel
theorem d_W_wouldBlockWithAny_10 : decode prog_5_method_17_code 10 = .ok (.aload_n 2, 1) := by decide +kernel
theorem d_W_wouldBlockWithAny_11 : decode prog_5_method_17_code 11 = .ok (.iload_n 3, 1) := by decide +kernel
theorem d_W_wouldBlockWithAny_12 : decode prog_5_method_17_code 12 = .ok (.iaload, 1) := by decide +kernel
theorem d_W_wouldBlockWithAny_13 : decode prog_5_method_17_code 13 = .ok (.iconst (-1), 1) := by decide +kernel
theorem d_W_wouldBlockWithAny_14 : decode prog_5_method_17_code 14 = .ok (.if_icmp .eq 15, 3) := by decide +kernel
theorem d_W_wouldBlockWithAny_17 : decode prog_5_method_17_code 17 = .ok (.aload_n 0, 1) := by decide +kernel
theorem d_W_wouldBlockWithAny_18 : decode prog_5_method_17_code 18 = .ok (.iload_n 1, 1) := by decide +kernel
theorem d_W_wouldBlockWithAny_19 : decode prog_5_method_17_code 19 = .ok (.iload_n 3, 1) := by decide +kernel
theorem d_W_wouldBlockWithAny_20 : decode prog_5_method_17_code 20 = .ok (.aload_n 2, 1) := by decide +kernel
theorem d_W_wouldBlockWithAny_21 : decode prog_5_method_17_code 21 = .ok (.invokevirtual 44, 3) := by decide +kernel
theorem d_W_wouldBlockWithAny_24 : decode prog_5_method_17_code 24 = .ok (.ifCond .eq 5, 3) := by decide +kernel
theorem d_W_wouldBlockWithAny_27 : decode prog_5_method_17_code 27 = .ok (.iconst 1, 1) := by decide +kernel
theorem d_W_wouldBlockWithAny_28 : decode prog_5_method_17_code 28 = .ok (.ireturn, 1) := by decide +kernel
theorem d_W_wouldBlockWithAny_29 : decode prog_5_method_17_code 29 = .ok (.iinc 3 1, 3) := by decide +kernel
theorem d_W_wouldBlockWithAny_32 : decode prog_5_method_17_code 32 = .ok (.goto (-30), 3) := by decide +kernel
theorem d_W_wouldBlockWithAny_35 : decode prog_5_method_17_code 35 = .ok (.iconst 0, 1) := by decide +kernel
theorem d_W_wouldBlockWithAny_36 : decode prog_5_method_17_code 36 = .ok (.ireturn, 1) := by decide +kernel
end
section
/-! There always is a partition (a person prefers by r, the less the better; S is being single): the document takes it as known, the reference's walk round its parties needs it. Own proof: stable permutations of the doubled house; the worst one that is not worse than its inverse is a partition. -/
theorem ex_surj : ∀ (n : Nat) (f : Nat → Nat), (∀ i, i < n → f i < n) → (∀ i j, i < n → j < n → f i = f j → i = j) → ∀ j, j < n → ∃ i, i < n ∧ f i = j
  | 0, _, _, _, j, hj => absurd hj (Nat.not_lt_zero j)
  | n + 1, f, h1, h2, j, hj => by
    have hm : f n < n + 1 := h1 n (Nat.lt_succ_self n)
    have g1 : ∀ i, i < n → (if f i = n then f n else f i) < n := by
      intro i hi
      have h3 := h1 i (by omega)
      by_cases e : f i = n
      · rw [if_pos e]
        have : f n ≠ n := fun e2 => by
          have := h2 i n (by omega) (by omega) (e.trans e2.symm)
          omega
        omega
      · rw [if_neg e]; omega
    have g2 : ∀ i k, i < n → k < n → (if f i = n then f n else f i) = (if f k = n then f n else f k) → i = k := by
      intro i k hi hk e
      by_cases ei : f i = n <;> by_cases ek : f k = n
      · exact h2 i k (by omega) (by omega) (ei.trans ek.symm)
      · rw [if_pos ei, if_neg ek] at e
        have := h2 n k (by omega) (by omega) e
        omega
      · rw [if_neg ei, if_pos ek] at e
        have := h2 i n (by omega) (by omega) e
        omega
      · rw [if_neg ei, if_neg ek] at e
        exact h2 i k (by omega) (by omega) e
    have ih := ex_surj n (fun i => if f i = n then f n else f i) g1 g2
    by_cases e1 : j = f n
    · exact ⟨n, by omega, e1.symm⟩
    · by_cases e2 : j = n
      · obtain ⟨i, hi, e⟩ := ih (f n) (by omega)
        have e : (if f i = n then f n else f i) = f n := e
        by_cases ei : f i = n
        · exact ⟨i, by omega, ei.trans e2.symm⟩
        · rw [if_neg ei] at e
          have := h2 i n (by omega) (by omega) e
          omega
      · obtain ⟨i, hi, e⟩ := ih j (by omega)
        have e : (if f i = n then f n else f i) = j := e
        by_cases ei : f i = n
        · rw [if_pos ei] at e
          exact absurd e.symm e1
        · rw [if_neg ei] at e
          exact ⟨i, by omega, e⟩
theorem ex_pigeon (n : Nat) (f : Nat → Nat) (h1 : ∀ i, i ≤ n → f i < n) : ∃ i j, i < j ∧ j ≤ n ∧ f i = f j := by
  apply Classical.byContradiction
  intro hno
  have inj : ∀ i j, i ≤ n → j ≤ n → f i = f j → i = j := by
    intro i j hi hj e
    rcases Nat.lt_trichotomy i j with h | h | h
    · exact absurd ⟨i, j, h, hj, e⟩ hno
    · exact h
    · exact absurd ⟨j, i, h, hi, e.symm⟩ hno
  obtain ⟨i, hi, e⟩ := ex_surj n f (fun i hi => h1 i (by omega)) (fun i j hi hj e => inj i j (by omega) (by omega) e) (f n) (h1 n (Nat.le_refl n))
  have := inj i n (by omega) (by omega) e
  omega
/-- a greatest one, of a kind whose measure is bounded -/
theorem ex_max {α : Type} (P : α → Prop) (μ : α → Nat) (B : Nat) (hB : ∀ a, P a → μ a ≤ B) : ∀ (k : Nat) (a : α), P a → B - μ a ≤ k → ∃ c, P c ∧ ∀ d, P d → μ d ≤ μ c
  | 0, a, ha, hk => ⟨a, ha, fun d hd => by have h1 := hB a ha; have h2 := hB d hd; omega⟩
  | k + 1, a, ha, hk => by
    by_cases h : ∃ d, P d ∧ μ a < μ d
    · obtain ⟨d, hd, hlt⟩ := h
      have h1 := hB d hd
      exact ex_max P μ B hB k d hd (by omega)
    · exact ⟨a, ha, fun d hd => Nat.le_of_not_lt fun hlt => h ⟨d, hd, hlt⟩⟩
/-- a least one below n of a kind -/
theorem ex_min (P : Nat → Prop) (μ : Nat → Nat) : ∀ (k : Nat) (a : Nat), P a → μ a ≤ k → ∃ c, P c ∧ ∀ d, P d → μ c ≤ μ d
  | 0, a, ha, hk => ⟨a, ha, fun d _ => by omega⟩
  | k + 1, a, ha, hk => by
    by_cases h : ∃ d, P d ∧ μ d < μ a
    · obtain ⟨d, hd, hlt⟩ := h
      exact ex_min P μ k d hd (by omega)
    · exact ⟨a, ha, fun d hd => Nat.le_of_not_lt fun hlt => h ⟨d, hd, hlt⟩⟩
def ex_sum (f : Nat → Nat) : Nat → Nat
  | 0 => 0
  | n + 1 => ex_sum f n + f n
theorem ex_sum_le {f g : Nat → Nat} : ∀ (n : Nat), (∀ i, i < n → f i ≤ g i) → ex_sum f n ≤ ex_sum g n
  | 0, _ => Nat.le_refl _
  | n + 1, h => Nat.add_le_add (ex_sum_le n fun i hi => h i (by omega)) (h n (by omega))
theorem ex_sum_lt {f g : Nat → Nat} : ∀ (n : Nat), (∀ i, i < n → f i ≤ g i) → ∀ p, p < n → f p < g p → ex_sum f n < ex_sum g n
  | 0, _, p, hp, _ => absurd hp (Nat.not_lt_zero p)
  | n + 1, h, p, hp, hlt => by
    show ex_sum f n + f n < ex_sum g n + g n
    by_cases e : p = n
    · subst e
      have := ex_sum_le p fun i hi => h i (by omega)
      omega
    · have := ex_sum_lt n (fun i hi => h i (by omega)) p (by omega) hlt
      have := h n (by omega)
      omega
theorem ex_sum_bound {f : Nat → Nat} {S : Nat} : ∀ (n : Nat), (∀ i, i < n → f i ≤ S) → ex_sum f n ≤ n * S
  | 0, _ => by simp [ex_sum]
  | n + 1, h => by
    have h1 := ex_sum_bound n fun i hi => h i (by omega)
    have h2 := h n (by omega)
    show ex_sum f n + f n ≤ (n + 1) * S
    rw [Nat.succ_mul]
    omega
/-- ranks: itself at S; who may have whom is two-sided; no two at one rank -/
def ex_R (n S : Nat) (r : Nat → Nat → Nat) : Prop :=
  (∀ p, p < n → r p p = S) ∧ (∀ p q, p < n → q < n → r p q ≤ S → r q p ≤ S) ∧ ∀ p q q', p < n → q < n → q' < n → r p q ≤ S → r p q = r p q' → q = q'
/-- one person's offers: everyone's c is one whom it may have, and whoever is better than it has a better offer -/
def ex_I (n S : Nat) (r : Nat → Nat → Nat) (c : Nat → Nat) : Prop :=
  (∀ p, p < n → c p < n ∧ r p (c p) ≤ S) ∧ ∀ a b, a < n → b < n → r a b < r a (c a) → ∃ a', a' < n ∧ c a' = b ∧ r b a' < r b a
def ex_Inv (n : Nat) (f g : Nat → Nat) : Prop := ∀ p, p < n → f p < n ∧ g p < n ∧ g (f p) = p ∧ f (g p) = p
/-- a stable permutation of the doubled house, with its inverse -/
def ex_SS (n S : Nat) (r : Nat → Nat → Nat) (f g : Nat → Nat) : Prop :=
  ex_Inv n f g ∧ (∀ p, p < n → r p (f p) ≤ S) ∧ ∀ a b, a < n → b < n → r a b < r a (f a) → r b a < r b (g b) → False
/-- a partition: next ones f, last ones g -/
def ex_PT (n S : Nat) (r : Nat → Nat → Nat) (f g : Nat → Nat) : Prop :=
  ex_Inv n f g ∧ (∀ p, p < n → r p (f p) ≤ S) ∧ (∀ p, p < n → r p (f p) ≤ r p (g p)) ∧ ∀ a b, a < n → b < n → r a b < r a (g a) → r b a < r b (g b) → False
theorem ex_inv (n : Nat) (f : Nat → Nat) (h1 : ∀ i, i < n → f i < n) (h2 : ∀ i j, i < n → j < n → f i = f j → i = j) : ∃ g, ex_Inv n f g := by
  have h : ∀ q, ∃ p, q < n → p < n ∧ f p = q := by
    intro q
    by_cases hq : q < n
    · obtain ⟨p, hp, e⟩ := ex_surj n f h1 h2 q hq
      exact ⟨p, fun _ => ⟨hp, e⟩⟩
    · exact ⟨0, fun h => absurd h hq⟩
  obtain ⟨g, hg⟩ := Classical.axiomOfChoice h
  exact ⟨g, fun p hp => ⟨h1 p hp, (hg p hp).1, h2 _ _ (hg (f p) (h1 p hp)).1 hp (hg (f p) (h1 p hp)).2, (hg p hp).2⟩⟩
section EXA
variable {n S : Nat} {r : Nat → Nat → Nat}
theorem ex_first (R : ex_R n S r) : ∃ c, ex_I n S r c := by
  have h : ∀ p, ∃ q, p < n → q < n ∧ ∀ d, d < n → r p q ≤ r p d := by
    intro p
    by_cases hp : p < n
    · obtain ⟨c, h1, h2⟩ := ex_min (fun q => q < n) (fun q => r p q) (r p p) p hp (Nat.le_refl _)
      exact ⟨c, fun _ => ⟨h1, h2⟩⟩
    · exact ⟨0, fun h => absurd h hp⟩
  obtain ⟨c, hc⟩ := Classical.axiomOfChoice h
  refine ⟨c, fun p hp => ⟨(hc p hp).1, ?_⟩, fun a b ha hb hlt => ?_⟩
  · have := (hc p hp).2 p hp
    rw [R.1 p hp] at this
    exact this
  · have := (hc a ha).2 b hb
    omega
/-- nobody is alone while another one wants it -/
theorem ex_alone (R : ex_R n S r) {c : Nat → Nat} (hI : ex_I n S r c) {p p' : Nat} (hp : p < n) (hp' : p' < n) (hne : p' ≠ p) (e : c p = p) (e' : c p' = p) : False := by
  have step : ∀ k : Nat, ∃ f : Nat → Nat, (∀ i, i ≤ k + 1 → f i < n) ∧ f 0 = p ∧ f 1 ≠ p ∧ (∀ i, i ≤ k → c (f (i + 1)) = f i) ∧ r (f k) (f (k + 1)) < r (f k) (c (f k)) := by
    intro k
    induction k with
    | zero =>
      refine ⟨fun i => if i = 0 then p else p', fun i _ => ?_, rfl, ?_, fun i hi => ?_, ?_⟩
      · show (if i = 0 then p else p') < n
        by_cases h : i = 0
        · rw [if_pos h]; exact hp
        · rw [if_neg h]; exact hp'
      · show (if 1 = 0 then p else p') ≠ p
        rw [if_neg (by decide)]; exact hne
      · have h : i = 0 := by omega
        subst h
        show c (if 0 + 1 = 0 then p else p') = if 0 = 0 then p else p'
        rw [if_neg (by decide), if_pos rfl]; exact e'
      · show r (if 0 = 0 then p else p') (if 0 + 1 = 0 then p else p') < r (if 0 = 0 then p else p') (c (if 0 = 0 then p else p'))
        rw [if_pos rfl, if_neg (by decide), e, R.1 p hp]
        have h1 : r p' p ≤ S := by have := (hI.1 p' hp').2; rw [e'] at this; exact this
        have h2 := R.2.1 p' p hp' hp h1
        have h3 : r p p' ≠ S := fun h => hne (R.2.2 p p' p hp hp' hp h2 (h.trans (R.1 p hp).symm))
        omega
    | succ k ih =>
      obtain ⟨f, h1, h2, h3, h4, h5⟩ := ih
      obtain ⟨z, hz, z1, z2⟩ := hI.2 (f k) (f (k + 1)) (h1 k (by omega)) (h1 (k + 1) (by omega)) h5
      refine ⟨fun i => if i = k + 2 then z else f i, fun i hi => ?_, ?_, ?_, fun i hi => ?_, ?_⟩
      · show (if i = k + 2 then z else f i) < n
        by_cases h : i = k + 2
        · rw [if_pos h]; exact hz
        · rw [if_neg h]; exact h1 i (by omega)
      · show (if 0 = k + 2 then z else f 0) = p
        rw [if_neg (by omega)]; exact h2
      · show (if 1 = k + 2 then z else f 1) ≠ p
        rw [if_neg (by omega)]; exact h3
      · show c (if i + 1 = k + 2 then z else f (i + 1)) = if i = k + 2 then z else f i
        rw [if_neg (show ¬ i = k + 2 by omega)]
        by_cases h : i + 1 = k + 2
        · rw [if_pos h]
          have : i = k + 1 := by omega
          subst this
          exact z1
        · rw [if_neg h]; exact h4 i (by omega)
      · show r (if k + 1 = k + 2 then z else f (k + 1)) (if k + 1 + 1 = k + 2 then z else f (k + 1 + 1)) < r (if k + 1 = k + 2 then z else f (k + 1)) (c (if k + 1 = k + 2 then z else f (k + 1)))
        rw [if_neg (show ¬ k + 1 = k + 2 by omega), if_pos rfl, h4 k (Nat.le_refl k)]
        exact z2
  obtain ⟨f, h1, h2, h3, h4, -⟩ := step n
  have nz : ∀ i, i ≤ n → f (i + 1) ≠ p := by
    intro i
    induction i with
    | zero => intro _; exact h3
    | succ i ih =>
      intro hi h
      have := h4 (i + 1) hi
      rw [h, e] at this
      exact ih (by omega) this.symm
  have inj : ∀ i j, i < j → j ≤ n → f i ≠ f j := by
    intro i
    induction i with
    | zero =>
      intro j hj hn h
      obtain ⟨k, rfl⟩ : ∃ k, j = k + 1 := ⟨j - 1, by omega⟩
      exact nz k (by omega) (h.symm.trans h2)
    | succ i ih =>
      intro j hj hn h
      obtain ⟨k, rfl⟩ : ∃ k, j = k + 1 := ⟨j - 1, by omega⟩
      have a1 := h4 i (by omega)
      have a2 := h4 k (by omega)
      rw [h, a2] at a1
      exact ih k (by omega) (by omega) a1.symm
  obtain ⟨i, j, hij, hj, h⟩ := ex_pigeon n f (fun i hi => h1 i (by omega))
  exact inj i j hij hj h
theorem ex_semi (R : ex_R n S r) : ∃ f g, ex_SS n S r f g := by
  obtain ⟨c0, hc0⟩ := ex_first R
  obtain ⟨c, hI, hmax⟩ := ex_max (ex_I n S r) (fun c => ex_sum (fun p => r p (c p)) n) (n * S) (fun a ha => ex_sum_bound n fun i hi => (ha.1 i hi).2) (n * S) c0 hc0 (Nat.sub_le _ _)
  -- who is refused, asks the next one
  have refused : ∀ p p', p < n → p' < n → c p = c p' → r (c p) p' < r (c p) p → False := by
    intro p p' hp hp' e hlt
    have hne : p' ≠ p := fun h => by rw [h] at hlt; exact Nat.lt_irrefl _ hlt
    by_cases hq : c p = p
    · exact ex_alone R hI hp hp' hne hq (e.symm.trans hq)
    · have hok := (hI.1 p hp).2
      have hqn := (hI.1 p hp).1
      have hs : r p (c p) < S := by
        have : r p (c p) ≠ S := fun h => hq (R.2.2 p (c p) p hp hqn hp hok (h.trans (R.1 p hp).symm))
        omega
      obtain ⟨q2, ⟨g1, g2⟩, g3⟩ := ex_min (fun x => x < n ∧ r p (c p) < r p x) (fun x => r p x) S p ⟨hp, by rw [R.1 p hp]; exact hs⟩ (by rw [R.1 p hp]; exact Nat.le_refl _)
      have g4 : r p q2 ≤ S := by have := g3 p ⟨hp, by rw [R.1 p hp]; exact hs⟩; rw [R.1 p hp] at this; exact this
      have self : (fun x => if x = p then q2 else c x) p = q2 := if_pos rfl
      have other : ∀ x, x ≠ p → (fun x => if x = p then q2 else c x) x = c x := fun x hx => if_neg hx
      generalize (fun x => if x = p then q2 else c x) = c' at self other
      have hI' : ex_I n S r c' := by
        refine ⟨fun a ha => ?_, fun a b ha hb hab => ?_⟩
        · by_cases h : a = p
          · subst h; rw [self]; exact ⟨g1, g4⟩
          · rw [other a h]; exact hI.1 a ha
        · by_cases h : a = p
          · subst h
            rw [self] at hab
            by_cases hb1 : r a b < r a (c a)
            · obtain ⟨a', w1, w2, w3⟩ := hI.2 a b ha hb hb1
              refine ⟨a', w1, ?_, w3⟩
              rw [other a' fun h => by rw [h] at w3; exact Nat.lt_irrefl _ w3]
              exact w2
            · have hb2 : r a (c a) = r a b := by
                apply Classical.byContradiction
                intro h
                have := g3 b ⟨hb, by omega⟩
                omega
              have hb3 := R.2.2 a (c a) b ha hqn hb hok hb2
              subst hb3
              exact ⟨p', hp', (other p' hne).trans e.symm, hlt⟩
          · rw [other a h] at hab
            obtain ⟨a', w1, w2, w3⟩ := hI.2 a b ha hb hab
            by_cases h2 : a' = p
            · subst h2
              subst w2
              exact ⟨p', hp', (other p' hne).trans e.symm, Nat.lt_trans hlt w3⟩
            · exact ⟨a', w1, (other a' h2).trans w2, w3⟩
      have h1 := hmax c' hI'
      have h2 : ex_sum (fun x => r x (c x)) n < ex_sum (fun x => r x (c' x)) n := by
        refine ex_sum_lt n (fun i hi => ?_) p hp ?_
        · by_cases h : i = p
          · subst h; rw [self]; exact Nat.le_of_lt g2
          · rw [other i h]; exact Nat.le_refl _
        · show r p (c p) < r p (c' p)
          rw [self]; exact g2
      exact absurd h1 (Nat.not_le.mpr h2)
  have inj : ∀ i j, i < n → j < n → c i = c j → i = j := by
    intro p p' hp hp' e
    have a1 := hI.1 p hp
    have a2 := hI.1 p' hp'
    have b1 := R.2.1 p (c p) hp a1.1 a1.2
    rcases Nat.lt_trichotomy (r (c p) p) (r (c p) p') with h | h | h
    · exact (refused p' p hp' hp e.symm (by rw [← e]; exact h)).elim
    · exact R.2.2 (c p) p p' a1.1 hp hp' b1 h
    · exact (refused p p' hp hp' e h).elim
  obtain ⟨g, hg⟩ := ex_inv n c (fun i hi => (hI.1 i hi).1) inj
  refine ⟨c, g, hg, fun p hp => (hI.1 p hp).2, fun a b ha hb h1 h2 => ?_⟩
  obtain ⟨a', w1, w2, w3⟩ := hI.2 a b ha hb h1
  have : g b = a' := by rw [← w2]; exact (hg a' w1).2.2.1
  rw [this] at h2
  omega
theorem ex_back (R : ex_R n S r) {f g : Nat → Nat} (h : ex_SS n S r f g) {p : Nat} (hp : p < n) : r p (g p) ≤ S := by
  have h1 := h.1 p hp
  have h2 := h.2.1 (g p) h1.2.1
  rw [h1.2.2.2] at h2
  exact R.2.1 _ _ h1.2.1 hp h2
/-- of a stable permutation and its inverse, everyone's better one: stable too, and no worse than its inverse -/
theorem ex_join (R : ex_R n S r) {f g : Nat → Nat} (h : ex_SS n S r f g) : ∃ t u, ex_SS n S r t u ∧ (∀ p, p < n → r p (t p) ≤ r p (u p)) ∧ ∀ p, p < n → (t p = f p ∨ t p = g p) := by
  have hok := h.2.1
  have hgk : ∀ p, p < n → r p (g p) ≤ S := fun p hp => ex_back R h hp
  have ht : ∀ p, p < n → (r p (f p) ≤ r p (g p) → (fun p => if r p (f p) ≤ r p (g p) then f p else g p) p = f p ∧ (fun p => if r p (f p) ≤ r p (g p) then g p else f p) p = g p) ∧
      (¬ r p (f p) ≤ r p (g p) → (fun p => if r p (f p) ≤ r p (g p) then f p else g p) p = g p ∧ (fun p => if r p (f p) ≤ r p (g p) then g p else f p) p = f p) :=
    fun p _ => ⟨fun h => ⟨if_pos h, if_pos h⟩, fun h => ⟨if_neg h, if_neg h⟩⟩
  generalize (fun p => if r p (f p) ≤ r p (g p) then f p else g p) = t at ht
  generalize (fun p => if r p (f p) ≤ r p (g p) then g p else f p) = u at ht
  have tn : ∀ p, p < n → t p < n := fun p hp => by
    by_cases hc : r p (f p) ≤ r p (g p)
    · rw [((ht p hp).1 hc).1]; exact (h.1 p hp).1
    · rw [((ht p hp).2 hc).1]; exact (h.1 p hp).2.1
  have un : ∀ p, p < n → u p < n := fun p hp => by
    by_cases hc : r p (f p) ≤ r p (g p)
    · rw [((ht p hp).1 hc).2]; exact (h.1 p hp).2.1
    · rw [((ht p hp).2 hc).2]; exact (h.1 p hp).1
  have ut : ∀ p, p < n → u (t p) = p := by
    intro p hp
    obtain ⟨a1, a2, a3, a4⟩ := h.1 p hp
    by_cases hc : r p (f p) ≤ r p (g p)
    · rw [((ht p hp).1 hc).1]
      obtain ⟨b1, b2, b3, b4⟩ := h.1 (f p) a1
      by_cases hq : r (f p) (f (f p)) ≤ r (f p) (g (f p))
      · rw [((ht (f p) a1).1 hq).2]; exact a3
      · exfalso
        rw [a3] at hq
        by_cases hl : r p (f p) < r p (g p)
        · exact h.2.2 (f p) p a1 hp (by omega) hl
        · have e := R.2.2 p (f p) (g p) hp a1 a2 (hok p hp) (by omega)
          have e2 : f (f p) = p := by rw [e]; exact a4
          rw [e2] at hq
          exact hq (Nat.le_refl _)
    · rw [((ht p hp).2 hc).1]
      obtain ⟨b1, b2, b3, b4⟩ := h.1 (g p) a2
      by_cases hq : r (g p) (f (g p)) ≤ r (g p) (g (g p))
      · exfalso
        rw [a4] at hq
        by_cases hl : r (g p) p < r (g p) (g (g p))
        · exact h.2.2 p (g p) hp a2 (by omega) hl
        · have hpk : r (g p) p ≤ S := by have := hok (g p) a2; rw [a4] at this; exact this
          have e := R.2.2 (g p) p (g (g p)) a2 hp b2 hpk (by omega)
          have e2 : f p = g p := by
            have := b4
            rw [← e] at this
            exact this
          rw [e2] at hc
          exact hc (Nat.le_refl _)
      · rw [((ht (g p) a2).2 hq).2]; exact a4
  have tinj : ∀ i j, i < n → j < n → t i = t j → i = j := fun i j hi hj e => by rw [← ut i hi, ← ut j hj, e]
  have tu : ∀ p, p < n → t (u p) = p := by
    intro p hp
    obtain ⟨x, hx, e⟩ := ex_surj n t tn tinj p hp
    rw [← e, ut x hx]
  refine ⟨t, u, ⟨fun p hp => ⟨tn p hp, un p hp, ut p hp, tu p hp⟩, fun p hp => ?_, fun a b ha hb h1 h2 => ?_⟩, fun p hp => ?_, fun p hp => ?_⟩
  · by_cases hc : r p (f p) ≤ r p (g p)
    · rw [((ht p hp).1 hc).1]; exact hok p hp
    · rw [((ht p hp).2 hc).1]; exact hgk p hp
  · have l1 : r a b < r a (f a) ∧ r a b < r a (g a) := by
      by_cases hc : r a (f a) ≤ r a (g a)
      · rw [((ht a ha).1 hc).1] at h1; omega
      · rw [((ht a ha).2 hc).1] at h1; omega
    by_cases hc : r b (f b) ≤ r b (g b)
    · rw [((ht b hb).1 hc).2] at h2; exact h.2.2 a b ha hb l1.1 h2
    · rw [((ht b hb).2 hc).2] at h2; exact h.2.2 b a hb ha h2 l1.2
  · by_cases hc : r p (f p) ≤ r p (g p)
    · rw [((ht p hp).1 hc).1, ((ht p hp).1 hc).2]; exact hc
    · rw [((ht p hp).2 hc).1, ((ht p hp).2 hc).2]; omega
  · by_cases hc : r p (f p) ≤ r p (g p)
    · exact Or.inl ((ht p hp).1 hc).1
    · exact Or.inr ((ht p hp).2 hc).1
end EXA
section EXB
variable {n S : Nat} {r : Nat → Nat → Nat}
def ex_it (f : Nat → Nat) (i : Nat) : Nat → Nat
  | 0 => i
  | k + 1 => f (ex_it f i k)
theorem ex_partition (R : ex_R n S r) : ∃ f g, ex_PT n S r f g := by
  obtain ⟨f0, g0, h0⟩ := ex_semi R
  obtain ⟨t0, u0, hs0, hge0, -⟩ := ex_join R h0
  obtain ⟨⟨f, g⟩, ⟨hs, hge⟩, hmax⟩ := ex_max (fun q : (Nat → Nat) × (Nat → Nat) => ex_SS n S r q.1 q.2 ∧ ∀ p, p < n → r p (q.1 p) ≤ r p (q.2 p)) (fun q => ex_sum (fun p => r p (q.1 p)) n) (n * S)
    (fun a ha => ex_sum_bound n fun i hi => ha.1.2.1 i hi) (n * S) (t0, u0) ⟨hs0, hge0⟩ (Nat.sub_le _ _)
  have hs : ex_SS n S r f g := hs
  have hge : ∀ p, p < n → r p (f p) ≤ r p (g p) := hge
  have hok := hs.2.1
  have hgk : ∀ p, p < n → r p (g p) ≤ S := fun p hp => ex_back R hs hp
  have hst := hs.2.2
  have fn : ∀ p, p < n → f p < n := fun p hp => (hs.1 p hp).1
  have gn : ∀ p, p < n → g p < n := fun p hp => (hs.1 p hp).2.1
  have gf : ∀ p, p < n → g (f p) = p := fun p hp => (hs.1 p hp).2.2.1
  have fg : ∀ p, p < n → f (g p) = p := fun p hp => (hs.1 p hp).2.2.2
  refine ⟨f, g, hs.1, hok, hge, fun i j hi hj hij hji => ?_⟩
  -- the best one that would rather have p than its last one
  have hsx : ∀ p, ∃ q, (p < n ∧ f p ≠ g p) → (q < n ∧ r q p < r q (g q)) ∧ ∀ d, d < n ∧ r d p < r d (g d) → r p q ≤ r p d := by
    intro p
    by_cases hp : p < n ∧ f p ≠ g p
    · have hq : g p < n ∧ r (g p) p < r (g p) (g (g p)) := by
        refine ⟨gn p hp.1, ?_⟩
        have h1 := hge (g p) (gn p hp.1)
        rw [fg p hp.1] at h1
        by_cases e : r (g p) p = r (g p) (g (g p))
        · exfalso
          have hk : r (g p) p ≤ S := by have := hok (g p) (gn p hp.1); rw [fg p hp.1] at this; exact this
          have e2 := R.2.2 (g p) p (g (g p)) (gn p hp.1) hp.1 (gn _ (gn p hp.1)) hk e
          have e3 := fg (g p) (gn p hp.1)
          rw [← e2] at e3
          exact hp.2 e3
        · omega
      obtain ⟨c, c1, c2⟩ := ex_min (fun q => q < n ∧ r q p < r q (g q)) (fun q => r p q) (r p (g p)) (g p) hq (Nat.le_refl _)
      exact ⟨c, fun _ => ⟨c1, c2⟩⟩
    · exact ⟨0, fun h => absurd h hp⟩
  obtain ⟨s, hsp⟩ := Classical.axiomOfChoice hsx
  have sn : ∀ p, p < n → f p ≠ g p → s p < n := fun p hp hj => (hsp p ⟨hp, hj⟩).1.1
  have sq : ∀ p, p < n → f p ≠ g p → r (s p) p < r (s p) (g (s p)) := fun p hp hj => (hsp p ⟨hp, hj⟩).1.2
  have sm : ∀ p, p < n → f p ≠ g p → ∀ d, d < n → r d p < r d (g d) → r p (s p) ≤ r p d := fun p hp hj d hd h => (hsp p ⟨hp, hj⟩).2 d ⟨hd, h⟩
  -- its own last one would
  have lastOk : ∀ p, p < n → f p ≠ g p → r (g p) p < r (g p) (g (g p)) := by
    intro p hp hj
    have h1 := hge (g p) (gn p hp)
    rw [fg p hp] at h1
    by_cases e : r (g p) p = r (g p) (g (g p))
    · exfalso
      have hk : r (g p) p ≤ S := by have := hok (g p) (gn p hp); rw [fg p hp] at this; exact this
      have e2 := R.2.2 (g p) p (g (g p)) (gn p hp) hp (gn _ (gn p hp)) hk e
      have e3 := fg (g p) (gn p hp)
      rw [← e2] at e3
      exact hj e3
    · omega
  have s1 : ∀ p, p < n → f p ≠ g p → r p (s p) ≤ r p (g p) := fun p hp hj => sm p hp hj (g p) (gn p hp) (lastOk p hp hj)
  have sS : ∀ p, p < n → f p ≠ g p → r p (s p) ≤ S := fun p hp hj => Nat.le_trans (s1 p hp hj) (hgk p hp)
  have s2 : ∀ p, p < n → f p ≠ g p → r p (f p) < r p (s p) := by
    intro p hp hj
    have hq := sq p hp hj
    have h1 : ¬ r p (s p) < r p (f p) := fun h => hst p (s p) hp (sn p hp hj) h hq
    have h2 : r p (s p) ≠ r p (f p) := by
      intro e
      have e2 := R.2.2 p (s p) (f p) hp (sn p hp hj) (fn p hp) (sS p hp hj) e
      rw [e2, gf p hp] at hq
      exact Nat.lt_irrefl _ hq
    omega
  have sJ : ∀ p, p < n → f p ≠ g p → f (s p) ≠ g (s p) := by
    intro p hp hj e
    have hq := sq p hp hj
    have hl := s1 p hp hj
    by_cases h : r p (s p) < r p (g p)
    · exact hst (s p) p (sn p hp hj) hp (by rw [e]; exact hq) h
    · have e2 := R.2.2 p (s p) (g p) hp (sn p hp hj) (gn p hp) (sS p hp hj) (by omega)
      rw [← e, e2, fg p hp] at hq
      exact Nat.lt_irrefl _ hq
  have hJ : ∀ p, p < n → f p ≠ g p → f (g (s p)) ≠ g (g (s p)) := by
    intro p hp hj e
    have h1 := sn p hp hj
    rw [fg _ h1] at e
    have e2 : f (s p) = g (s p) := by
      have := fg (g (s p)) (gn _ h1)
      rw [← e] at this
      exact this
    exact sJ p hp hj e2
  have iJ : f i ≠ g i := fun e => hst i j hi hj (by rw [e]; exact hij) hji
  -- the walk: x 0 = i, then the last one of s
  have x0 : ex_it (fun p => g (s p)) i 0 = i := rfl
  have xs : ∀ k, ex_it (fun p => g (s p)) i (k + 1) = g (s (ex_it (fun p => g (s p)) i k)) := fun _ => rfl
  generalize ex_it (fun p => g (s p)) i = x at x0 xs
  have xJ : ∀ k, x k < n ∧ f (x k) ≠ g (x k) := by
    intro k
    induction k with
    | zero => rw [x0]; exact ⟨hi, iJ⟩
    | succ k ih => rw [xs]; exact ⟨gn _ (sn _ ih.1 ih.2), hJ _ ih.1 ih.2⟩
  obtain ⟨a, b, hab, -, hxab⟩ := ex_pigeon n x (fun k _ => (xJ k).1)
  obtain ⟨d, rfl⟩ : ∃ d, b = a + (d + 1) := ⟨b - a - 1, by omega⟩
  have add : ∀ k l m, x k = x l → x (k + m) = x (l + m) := by
    intro k l m e
    induction m with
    | zero => exact e
    | succ m ih => rw [← Nat.add_assoc, ← Nat.add_assoc, xs, xs, ih]
  have per : ∀ k, a ≤ k → x (k + (d + 1)) = x k := by
    intro k hk
    have := add a (a + (d + 1)) (k - a) hxab
    rw [show a + (k - a) = k by omega, show a + (d + 1) + (k - a) = k + (d + 1) by omega] at this
    exact this.symm
  -- who is on the round
  have Rn : ∀ p, (∃ k, a ≤ k ∧ x k = p) → p < n ∧ f p ≠ g p := fun p ⟨k, _, e⟩ => e ▸ xJ k
  have Rf : ∀ p, (∃ k, a ≤ k ∧ x k = p) → ∃ k, a ≤ k ∧ x k = g (s p) := fun p ⟨k, hk, e⟩ => ⟨k + 1, by omega, by rw [xs, e]⟩
  have Rinj : ∀ p q, (∃ k, a ≤ k ∧ x k = p) → (∃ k, a ≤ k ∧ x k = q) → g (s p) = g (s q) → p = q := by
    intro p q ⟨k, hk, e1⟩ ⟨m, hm, e2⟩ e
    have h1 : x (k + 1) = x (m + 1) := by rw [xs, xs, e1, e2]; exact e
    have h2 := add (k + 1) (m + 1) d h1
    rw [show k + 1 + d = k + (d + 1) by omega, show m + 1 + d = m + (d + 1) by omega, per k hk, per m hm, e1, e2] at h2
    exact h2
  have Ra : ∃ k, a ≤ k ∧ x k = x a := ⟨a, Nat.le_refl a, rfl⟩
  generalize hRR : (fun p => ∃ k, a ≤ k ∧ x k = p) = RR
  have cR : ∀ p, (∃ k, a ≤ k ∧ x k = p) = RR p := fun p => by rw [← hRR]
  simp only [cR] at Rn Rf Rinj Ra
  clear hRR cR
  -- the round is turned
  have hρ : ∀ p, ∃ y, (RR p → y = s p) ∧ (¬ RR p → y = f p) := by
    intro p
    by_cases h : RR p
    · exact ⟨s p, fun _ => rfl, fun h2 => absurd h h2⟩
    · exact ⟨f p, fun h2 => absurd h2 h, fun _ => rfl⟩
  obtain ⟨ρ, hρ⟩ := Classical.axiomOfChoice hρ
  have ρn : ∀ p, p < n → ρ p < n := by
    intro p hp
    by_cases h : RR p
    · rw [(hρ p).1 h]; exact sn p hp (Rn p h).2
    · rw [(hρ p).2 h]; exact fn p hp
  have ρinj : ∀ p q, p < n → q < n → ρ p = ρ q → p = q := by
    have mixed : ∀ p q, p < n → q < n → RR p → ¬ RR q → s p = f q → False := by
      intro p q hp hq h1 h2 e
      apply h2
      have := Rf p h1
      rw [e, gf q hq] at this
      exact this
    intro p q hp hq e
    by_cases h1 : RR p <;> by_cases h2 : RR q
    · rw [(hρ p).1 h1, (hρ q).1 h2] at e
      exact Rinj p q h1 h2 (by rw [e])
    · rw [(hρ p).1 h1, (hρ q).2 h2] at e
      exact (mixed p q hp hq h1 h2 e).elim
    · rw [(hρ p).2 h1, (hρ q).1 h2] at e
      exact (mixed q p hq hp h2 h1 e.symm).elim
    · rw [(hρ p).2 h1, (hρ q).2 h2] at e
      rw [← gf p hp, ← gf q hq, e]
  obtain ⟨ρ', hρ'⟩ := ex_inv n ρ ρn ρinj
  have ρS : ∀ p, p < n → r p (ρ p) ≤ S := by
    intro p hp
    by_cases h : RR p
    · rw [(hρ p).1 h]; exact sS p hp (Rn p h).2
    · rw [(hρ p).2 h]; exact hok p hp
  have ρss : ex_SS n S r ρ ρ' := by
    refine ⟨hρ', ρS, fun p q hp hq h1 h2 => ?_⟩
    have hx := hρ' q hq
    have h3 : r q p < r q (g q) := by
      by_cases h : RR (ρ' q)
      · have e := (hρ (ρ' q)).1 h
        rw [hx.2.2.2] at e
        have := sq (ρ' q) hx.2.1 (Rn _ h).2
        rw [← e] at this
        omega
      · have e := (hρ (ρ' q)).2 h
        rw [hx.2.2.2] at e
        have e2 : g q = ρ' q := (congrArg g e).trans (gf _ hx.2.1)
        rw [e2]; exact h2
    by_cases h : RR p
    · rw [(hρ p).1 h] at h1
      have := sm p hp (Rn p h).2 q hq h3
      omega
    · rw [(hρ p).2 h] at h1
      exact hst p q hp hq h1 h3
  obtain ⟨t, u, hts, htge, htor⟩ := ex_join R ρss
  have geρ : ∀ p, p < n → r p (f p) ≤ r p (ρ p) := by
    intro p hp
    by_cases h : RR p
    · rw [(hρ p).1 h]; exact Nat.le_of_lt (s2 p hp (Rn p h).2)
    · rw [(hρ p).2 h]; exact Nat.le_refl _
  have geρ' : ∀ p, p < n → r p (f p) ≤ r p (ρ' p) := by
    intro p hp
    have hx := hρ' p hp
    by_cases h : RR (ρ' p)
    · have e := (hρ (ρ' p)).1 h
      rw [hx.2.2.2] at e
      have hj := (Rn _ h).2
      apply Nat.le_of_not_lt
      intro hlt
      have h1 := s1 (ρ' p) hx.2.1 hj
      have h2 := sS (ρ' p) hx.2.1 hj
      rw [← e] at h1 h2
      by_cases h3 : r (ρ' p) p < r (ρ' p) (g (ρ' p))
      · exact hst p (ρ' p) hp hx.2.1 hlt h3
      · have e2 := R.2.2 (ρ' p) p (g (ρ' p)) hx.2.1 hp (gn _ hx.2.1) h2 (by omega)
        have e3 : f p = ρ' p := by
          have := fg (ρ' p) hx.2.1
          rw [← e2] at this
          exact this
        rw [e3] at hlt
        exact Nat.lt_irrefl _ hlt
    · have e := (hρ (ρ' p)).2 h
      rw [hx.2.2.2] at e
      have e2 : g p = ρ' p := by
        have := gf (ρ' p) hx.2.1
        rw [← e] at this
        exact this
      rw [← e2]; exact hge p hp
  have get : ∀ p, p < n → r p (f p) ≤ r p (t p) := by
    intro p hp
    rcases htor p hp with e | e
    · rw [e]; exact geρ p hp
    · rw [e]; exact geρ' p hp
  have tf : ∀ p, p < n → t p = f p := by
    intro p hp
    have h1 : ex_sum (fun p => r p (t p)) n ≤ ex_sum (fun p => r p (f p)) n := hmax (t, u) ⟨hts, htge⟩
    have h2 : ¬ r p (f p) < r p (t p) := fun hlt => absurd h1 (Nat.not_le.mpr (ex_sum_lt n get p hp hlt))
    have h3 := get p hp
    exact (R.2.2 p (f p) (t p) hp (fn p hp) (hts.1 p hp).1 (hok p hp) (by omega)).symm
  have turn : ∀ p, RR p → RR (f p) ∧ s (f p) = p := by
    intro p h
    obtain ⟨hp, hj⟩ := Rn p h
    have e1 : ρ' p = f p := by
      rcases htor p hp with e | e
      · exfalso
        rw [tf p hp, (hρ p).1 h] at e
        have := s2 p hp hj
        rw [← e] at this
        exact Nat.lt_irrefl _ this
      · rw [← e]; exact tf p hp
    have e2 : ρ (f p) = p := by rw [← e1]; exact (hρ' p hp).2.2.2
    by_cases h2 : RR (f p)
    · exact ⟨h2, ((hρ (f p)).1 h2).symm.trans e2⟩
    · exfalso
      rw [(hρ (f p)).2 h2] at e2
      apply hj
      have := gf (f p) (fn p hp)
      rw [e2] at this
      exact this.symm
  have back : ∀ p, RR p → RR (g p) ∧ s p = g p := by
    intro p h
    obtain ⟨hp, hj⟩ := Rn p h
    obtain ⟨h1, h2⟩ := turn p h
    have h3 := Rf (f p) h1
    rw [h2] at h3
    have h4 := (turn (g p) h3).2
    rw [fg p hp] at h4
    exact ⟨h3, h4⟩
  -- nobody on the round has somebody inside
  have noIn : ∀ p q, RR p → q < n → r p q < r p (g p) → r q p < r q (g q) → False := by
    intro p q h hq h1 h2
    obtain ⟨hp, hj⟩ := Rn p h
    have h3 := sm p hp hj q hq h2
    rw [(back p h).2] at h3
    omega
  have never : ∀ k, ¬ RR (x k) := by
    intro k
    induction k with
    | zero => rw [x0]; exact fun h => noIn i j h hj hij hji
    | succ k ih =>
      intro h
      rw [xs] at h
      obtain ⟨hp, hJk⟩ := xJ k
      have hsn := sn (x k) hp hJk
      have h1 : RR (s (x k)) := by
        have := (turn _ h).1
        rw [fg _ hsn] at this
        exact this
      have hne : s (x k) ≠ g (x k) := by
        intro e
        apply ih
        have := (turn _ h1).1
        rw [e, fg _ hp] at this
        exact this
      have h2 := s1 (x k) hp hJk
      have h3 : r (x k) (s (x k)) ≠ r (x k) (g (x k)) := fun e => hne (R.2.2 _ _ _ hp hsn (gn _ hp) (sS _ hp hJk) e)
      exact noIn (s (x k)) (x k) h1 hp (sq _ hp hJk) (by omega)
  exact never a Ra
end EXB
end
section
/-! Lists, ranks, all assignments in their order; the program's search over them. -/
def rh_wf (n : Nat) (L : Nat → List Nat) : Prop := n ≤ 8 ∧ (∀ p, p < n → (L p).Nodup ∧ ∀ q, q ∈ L p → q < n ∧ q ≠ p) ∧ ∀ p, n ≤ p → L p = []
def rh_rk (L : Nat → List Nat) (p q : Nat) : Nat := if p = q then 8 else if q ∈ L p ∧ p ∈ L q then (L p).idxOf q else 9
theorem rh_nd (n : Nat) (l : List Nat) (h : l.Nodup) (hb : ∀ q, q ∈ l → q < n) : l.length ≤ n := by
  apply Nat.le_of_not_lt
  intro hlt
  obtain ⟨i, j, hij, hj, e⟩ := ex_pigeon n (fun i => l.getD i 0) (fun i hi => by
    show l.getD i 0 < n
    rw [List.getD_eq_getElem?_getD, List.getElem?_eq_getElem (show i < l.length by omega), Option.getD_some]
    exact hb _ (List.getElem_mem _))
  have e : l.getD i 0 = l.getD j 0 := e
  rw [List.getD_eq_getElem?_getD, List.getD_eq_getElem?_getD, List.getElem?_eq_getElem (show i < l.length by omega), List.getElem?_eq_getElem (show j < l.length by omega), Option.getD_some, Option.getD_some] at e
  exact List.pairwise_iff_getElem.mp h i j (by omega) (by omega) hij e
section RHR
variable {n : Nat} {L : Nat → List Nat}
theorem rh_len (h : rh_wf n L) {p : Nat} (hp : p < n) : (L p).length + 1 ≤ n := by
  have h1 := (h.2.1 p hp).1
  have h2 := (h.2.1 p hp).2
  exact rh_nd n (p :: L p) (List.nodup_cons.mpr ⟨fun hm => (h2 p hm).2 rfl, h1⟩) (fun q hq => by
    rcases List.mem_cons.mp hq with e | hm
    · rw [e]; exact hp
    · exact (h2 q hm).1)
theorem rh_rk_self (p : Nat) : rh_rk L p p = 8 := if_pos rfl
theorem rh_rk_le (h : rh_wf n L) {p q : Nat} (hp : p < n) : rh_rk L p q ≤ 8 ↔ p = q ∨ (q ∈ L p ∧ p ∈ L q) := by
  unfold rh_rk
  by_cases e : p = q
  · rw [if_pos e]
    exact ⟨fun _ => Or.inl e, fun _ => Nat.le_refl 8⟩
  · rw [if_neg e]
    by_cases hm : q ∈ L p ∧ p ∈ L q
    · rw [if_pos hm]
      have := List.idxOf_lt_length_of_mem hm.1
      have := rh_len h hp
      have := h.1
      exact ⟨fun _ => Or.inr hm, fun _ => by omega⟩
    · rw [if_neg hm]
      exact ⟨fun h => absurd h (by decide), fun h => by rcases h with h | h; exact absurd h e; exact absurd h hm⟩
theorem rh_rk_lt (h : rh_wf n L) {p q : Nat} (hp : p < n) : rh_rk L p q < 8 ↔ q ∈ L p ∧ p ∈ L q := by
  unfold rh_rk
  by_cases e : p = q
  · rw [if_pos e]
    subst e
    exact ⟨fun h => absurd h (by decide), fun hm => absurd rfl ((h.2.1 p hp).2 p hm.1).2⟩
  · rw [if_neg e]
    by_cases hm : q ∈ L p ∧ p ∈ L q
    · rw [if_pos hm]
      have := List.idxOf_lt_length_of_mem hm.1
      have := rh_len h hp
      have := h.1
      exact ⟨fun _ => hm, fun _ => by omega⟩
    · rw [if_neg hm]
      exact ⟨fun h => absurd h (by decide), fun h => absurd h hm⟩
theorem rh_R (h : rh_wf n L) : ex_R n 8 (rh_rk L) := by
  refine ⟨fun p _ => rh_rk_self p, fun p q hp hq hk => ?_, fun p q q' hp hq hq' hk e => ?_⟩
  · rw [rh_rk_le h hp] at hk
    rw [rh_rk_le h hq]
    rcases hk with hk | hk
    · exact Or.inl hk.symm
    · exact Or.inr ⟨hk.2, hk.1⟩
  · have hk' : rh_rk L p q' ≤ 8 := e ▸ hk
    by_cases h8 : rh_rk L p q < 8
    · have m1 := (rh_rk_lt h hp).mp h8
      have m2 := (rh_rk_lt h hp).mp (e ▸ h8)
      have n1 : p ≠ q := fun z => ((h.2.1 p hp).2 q m1.1).2 z.symm
      have n2 : p ≠ q' := fun z => ((h.2.1 p hp).2 q' m2.1).2 z.symm
      unfold rh_rk at e
      rw [if_neg n1, if_pos m1, if_neg n2, if_pos m2] at e
      have l1 := List.idxOf_lt_length_of_mem m1.1
      have l2 := List.idxOf_lt_length_of_mem m2.1
      have g1 : (L p)[(L p).idxOf q]'l1 = q := List.getElem_idxOf l1
      have g2 : (L p)[(L p).idxOf q']'l2 = q' := List.getElem_idxOf l2
      rw [← g1, ← g2]
      congr 1
    · have e1 := (rh_rk_le h hp).mp hk
      have e2 := (rh_rk_le h hp).mp hk'
      rcases e1 with e1 | m1
      · rcases e2 with e2 | m2
        · exact e1.symm.trans e2
        · exact absurd ((rh_rk_lt h hp).mpr m2) (e ▸ h8)
      · exact absurd ((rh_rk_lt h hp).mpr m1) h8
end RHR
/-- all assignments that begin with pre, k more persons: the list from its best on, itself last -/
def rh_ext (L : Nat → List Nat) : Nat → List Nat → List (List Nat)
  | 0, pre => [pre]
  | k + 1, pre => (L pre.length ++ [pre.length]).flatMap (fun q => rh_ext L k (pre ++ [q]))
theorem rh_getD_app (pre : List Nat) (q i : Nat) : (pre ++ [q]).getD i 0 = if i = pre.length then q else pre.getD i 0 := by
  rw [List.getD_eq_getElem?_getD, List.getD_eq_getElem?_getD]
  by_cases h : i < pre.length
  · rw [List.getElem?_append_left h, if_neg (by omega)]
  · rw [List.getElem?_append_right (by omega)]
    by_cases e : i = pre.length
    · rw [if_pos e, e, Nat.sub_self]
      rfl
    · rw [if_neg e, List.getElem?_eq_none (by simp; omega), List.getElem?_eq_none (by omega)]
theorem rh_ext_mem {L : Nat → List Nat} : ∀ (k : Nat) (pre m : List Nat), m ∈ rh_ext L k pre → m.length = pre.length + k ∧ ∀ i, i < pre.length → m.getD i 0 = pre.getD i 0
  | 0, pre, m, h => by
    rw [rh_ext, List.mem_singleton] at h
    subst h
    exact ⟨rfl, fun _ _ => rfl⟩
  | k + 1, pre, m, h => by
    rw [rh_ext, List.mem_flatMap] at h
    obtain ⟨q, -, h⟩ := h
    obtain ⟨h1, h2⟩ := rh_ext_mem k (pre ++ [q]) m h
    rw [List.length_append, List.length_singleton] at h1 h2
    refine ⟨by omega, fun i hi => ?_⟩
    rw [h2 i (by omega), rh_getD_app, if_neg (by omega)]
theorem rh_ext_at {L : Nat → List Nat} {k : Nat} {pre m : List Nat} {q : Nat} (h : m ∈ rh_ext L k (pre ++ [q])) : m.getD pre.length 0 = q ∧ ∀ i, i < pre.length → m.getD i 0 = pre.getD i 0 := by
  obtain ⟨-, h2⟩ := rh_ext_mem k (pre ++ [q]) m h
  rw [List.length_append, List.length_singleton] at h2
  refine ⟨?_, fun i hi => ?_⟩
  · rw [h2 _ (by omega), rh_getD_app, if_pos rfl]
  · rw [h2 i (by omega), rh_getD_app, if_neg (by omega)]
/-- a stable matching -/
def rh_SM (n : Nat) (L : Nat → List Nat) (m : List Nat) : Prop :=
  (∀ p, p < n → rh_rk L p (m.getD p 0) ≤ 8 ∧ m.getD p 0 < n ∧ m.getD (m.getD p 0) 0 = p) ∧ ∀ p q, p < n → q < n → rh_rk L p q < rh_rk L p (m.getD p 0) → rh_rk L q p < rh_rk L q (m.getD q 0) → False
noncomputable def rh_sm (n : Nat) (L : Nat → List Nat) (m : List Nat) : Bool := @decide (rh_SM n L m) (Classical.propDecidable _)
theorem rh_sm_iff {n : Nat} {L : Nat → List Nat} {m : List Nat} : rh_sm n L m = true ↔ rh_SM n L m := @decide_eq_true_iff _ (Classical.propDecidable _)
/-- what is counted of them: how many, how often p has q, the first one -/
abbrev rh_A : Type := Nat × (Nat → Nat → Nat) × (Nat → Nat)
def rh_acc (n : Nat) (A : rh_A) (m : Nat → Nat) : rh_A :=
  (A.1 + 1, (fun p q => if p < n ∧ m p = q then A.2.1 p q + 1 else A.2.1 p q), fun p => if A.1 = 0 ∧ p < n then m p else A.2.2 p)
theorem rh_acc_congr {n : Nat} (A : rh_A) {m m' : Nat → Nat} (h : ∀ p, p < n → m p = m' p) : rh_acc n A m = rh_acc n A m' := by
  unfold rh_acc
  congr 2
  · funext p q
    by_cases hp : p < n
    · rw [h p hp]
    · rw [if_neg (fun z => hp z.1), if_neg (fun z => hp z.1)]
  · funext p
    by_cases hp : p < n
    · rw [h p hp]
    · rw [if_neg (fun z => hp z.2), if_neg (fun z => hp z.2)]
def rh_fold (n : Nat) (A : rh_A) (l : List (List Nat)) : rh_A := l.foldl (fun A m => rh_acc n A (fun p => m.getD p 0)) A
theorem rh_fold_app {n : Nat} {A : rh_A} {l l' : List (List Nat)} : rh_fold n A (l ++ l') = rh_fold n (rh_fold n A l) l' := List.foldl_append
/-- the program's search for stable matchings: t, whom it tries with whom -/
def cs_up (t : Nat → Option Nat) (a : Nat) (v : Option Nat) : Nat → Option Nat := fun x => if x = a then v else t x
def cs_blk (n : Nat) (rk : Nat → Nat → Nat) (x : Nat) (t : Nat → Option Nat) : Bool := (List.range n).any fun o => match t o, t x with
  | some b, some a => decide (rk x o < rk x a) && decide (rk o x < rk o b)
  | _, _ => false
theorem cs_blk_iff {n : Nat} {rk : Nat → Nat → Nat} {x : Nat} {t : Nat → Option Nat} : cs_blk n rk x t = true ↔ ∃ o a b, o < n ∧ t o = some b ∧ t x = some a ∧ rk x o < rk x a ∧ rk o x < rk o b := by
  unfold cs_blk
  rw [List.any_eq_true]
  constructor
  · rintro ⟨o, ho, h⟩
    rw [List.mem_range] at ho
    cases h1 : t o with
    | none => rw [h1] at h; cases h
    | some b =>
      cases h2 : t x with
      | none => rw [h1, h2] at h; cases h
      | some a =>
        rw [h1, h2] at h
        simp only [Bool.and_eq_true, decide_eq_true_eq] at h
        exact ⟨o, a, b, ho, h1, rfl, h.1, h.2⟩
  · rintro ⟨o, a, b, ho, h1, h2, h3, h4⟩
    refine ⟨o, List.mem_range.mpr ho, ?_⟩
    rw [h1, h2]
    simp only [Bool.and_eq_true, decide_eq_true_eq]
    exact ⟨h3, h4⟩
def cs_with (n : Nat) (rk : Nat → Nat → Nat) (person : Nat) (t : Nat → Option Nat) (go : (Nat → Option Nat) → rh_A → rh_A) (A : rh_A) (q : Nat) : rh_A :=
  if cs_blk n rk person (cs_up (cs_up t person (some q)) q (some person)) || cs_blk n rk q (cs_up (cs_up t person (some q)) q (some person)) then A else go (cs_up (cs_up t person (some q)) q (some person)) A
def cs_search (n : Nat) (L : Nat → List Nat) (rk : Nat → Nat → Nat) : Nat → Nat → (Nat → Option Nat) → rh_A → rh_A
  | 0, _, t, A => rh_acc n A (fun p => (t p).getD 0)
  | k + 1, person, t, A => match t person with
    | some _ => cs_search n L rk k (person + 1) t A
    | none => cs_with n rk person t (cs_search n L rk k (person + 1)) ((L person).foldl (fun A q => if t q = none ∧ rk person q < 8 then cs_with n rk person t (cs_search n L rk k (person + 1)) A q else A) A) person
/-- t is a part of a stable matching: persons below `person` have whom pre says -/
def cs_Tr (n : Nat) (L : Nat → List Nat) (person : Nat) (pre : List Nat) (t : Nat → Option Nat) : Prop :=
  pre.length = person ∧ (∀ a, a < person → t a = some (pre.getD a 0)) ∧ (∀ a b, t a = some b → a < n ∧ b < n ∧ t b = some a ∧ rh_rk L a b ≤ 8 ∧ (a < person ∨ b < person)) ∧
  ∀ a b a' b', t a = some a' → t b = some b' → rh_rk L a b < rh_rk L a a' → rh_rk L b a < rh_rk L b b' → False
theorem rh_flat_one {α : Type} (G : Nat → List α) (b : Nat) : ∀ (l : List Nat), l.Nodup → b ∈ l → (∀ q, q ∈ l → q ≠ b → G q = []) → l.flatMap G = G b
  | [], _, h, _ => absurd h List.not_mem_nil
  | a :: l, hn, h, hz => by
    rw [List.flatMap_cons]
    rw [List.nodup_cons] at hn
    by_cases e : a = b
    · subst e
      have : l.flatMap G = [] := List.flatMap_eq_nil_iff.mpr fun q hq => hz q (List.mem_cons_of_mem _ hq) (fun z => hn.1 (z ▸ hq))
      rw [this, List.append_nil]
    · rw [hz a List.mem_cons_self e, List.nil_append]
      exact rh_flat_one G b l hn.2 (by rcases List.mem_cons.mp h with z | z; exact absurd z.symm e; exact z) (fun q hq => hz q (List.mem_cons_of_mem _ hq))
section CSA
variable {n : Nat} {L : Nat → List Nat}
/-- an assignment that begins with pre, and is stable, agrees with t -/
theorem cs_agree {person k : Nat} {pre m : List Nat} {t : Nat → Option Nat} (T : cs_Tr n L person pre t) (hm : ∀ i, i < person → m.getD i 0 = pre.getD i 0) (hs : rh_SM n L m) {a b : Nat} (h : t a = some b) : m.getD a 0 = b := by
  obtain ⟨-, h1, h2, -⟩ := T
  obtain ⟨ha, hb, hba, -, hor⟩ := h2 a b h
  by_cases hlt : a < person
  · rw [hm a hlt]
    have := h1 a hlt
    rw [h] at this
    exact (Option.some.inj this).symm
  · have hlt2 : b < person := by omega
    have e := h1 b hlt2
    rw [hba] at e
    have e2 : m.getD b 0 = a := by rw [hm b hlt2]; exact (Option.some.inj e).symm
    have := (hs.1 b hb).2.2
    rw [e2] at this
    exact this
theorem cs_spec (hw : rh_wf n L) : ∀ (k person : Nat) (pre : List Nat) (t : Nat → Option Nat) (A : rh_A), person + k = n → cs_Tr n L person pre t →
    cs_search n L (rh_rk L) k person t A = rh_fold n A ((rh_ext L k pre).filter (rh_sm n L))
  | 0, person, pre, t, A, hk, T => by
    obtain ⟨h0, h1, h2, h3⟩ := T
    have hs : rh_SM n L pre := by
      refine ⟨fun p hp => ?_, fun p q hp hq => h3 p q _ _ (h1 p (by omega)) (h1 q (by omega))⟩
      obtain ⟨-, b2, b3, b4, -⟩ := h2 p _ (h1 p (by omega))
      refine ⟨b4, b2, ?_⟩
      have := h1 (pre.getD p 0) (by omega)
      rw [b3] at this
      exact (Option.some.inj this).symm
    rw [rh_ext, List.filter_cons_of_pos (rh_sm_iff.mpr hs), List.filter_nil]
    show rh_acc n A (fun p => (t p).getD 0) = rh_acc n A (fun p => pre.getD p 0)
    exact rh_acc_congr A fun p hp => by rw [h1 p (by omega)]; rfl
  | k + 1, person, pre, t, A, hk, T => by
    have hp : person < n := by omega
    have hLn := (hw.2.1 person hp).1
    have hLm := (hw.2.1 person hp).2
    have T0 := T
    obtain ⟨h0, h1, h2, h3⟩ := T
    rw [rh_ext, h0, List.filter_flatMap]
    unfold cs_search
    cases ht : t person with
    | some b =>
      obtain ⟨-, hb, hbp, hbk, hor⟩ := h2 person b ht
      have hlt : b < person := by omega
      have hm : b ∈ L person := by
        rcases (rh_rk_le hw hp).mp hbk with e | e
        · omega
        · exact e.1
      have eb : pre.getD b 0 = person := by have := h1 b hlt; rw [hbp] at this; exact (Option.some.inj this).symm
      rw [rh_flat_one (fun q => (rh_ext L k (pre ++ [q])).filter (rh_sm n L)) b]
      · show cs_search n L (rh_rk L) k (person + 1) t A = _
        refine cs_spec hw k (person + 1) (pre ++ [b]) t A (by omega) ⟨by rw [List.length_append, List.length_singleton, h0], fun a ha => ?_, fun a c h => ?_, h3⟩
        · rw [rh_getD_app, h0]
          by_cases e : a = person
          · rw [if_pos e, e]; exact ht
          · rw [if_neg e]; exact h1 a (by omega)
        · obtain ⟨c1, c2, c3, c4, c5⟩ := h2 a c h
          exact ⟨c1, c2, c3, c4, by omega⟩
      · rw [List.nodup_append]
        exact ⟨hLn, by simp, fun a ha c hc => by rw [List.mem_singleton] at hc; subst hc; exact (hLm a ha).2⟩
      · exact List.mem_append_left _ hm
      · intro q _ hq
        rw [List.filter_eq_nil_iff]
        intro m hmem hs
        rw [rh_sm_iff] at hs
        obtain ⟨e1, e2⟩ := rh_ext_at hmem
        rw [h0] at e1 e2
        have e3 : m.getD b 0 = person := by rw [e2 b hlt]; exact eb
        have e4 := (hs.1 b hb).2.2
        rw [e3, e1] at e4
        exact hq e4
    | none =>
      -- one try
      have one : ∀ (A : rh_A) (q : Nat), (q = person ∨ (t q = none ∧ rh_rk L person q < 8)) → q < n → cs_with n (rh_rk L) person t (cs_search n L (rh_rk L) k (person + 1)) A q = rh_fold n A ((rh_ext L k (pre ++ [q])).filter (rh_sm n L)) := by
        intro A q hq hqn
        have hqt : t q = none := by rcases hq with e | e; rw [e]; exact ht; exact e.1
        have hqk : rh_rk L person q ≤ 8 := by
          rcases hq with e | e
          · rw [e, rh_rk_self]; exact Nat.le_refl _
          · omega
        unfold cs_with
        have up : ∀ a, cs_up (cs_up t person (some q)) q (some person) a = if a = q then some person else if a = person then some q else t a := fun a => rfl
        generalize cs_up (cs_up t person (some q)) q (some person) = t' at up
        have tq : t' q = some person := by rw [up, if_pos rfl]
        have tp : t' person = some q := by
          rw [up]
          by_cases e : person = q
          · rw [if_pos e, e]
          · rw [if_neg e, if_pos rfl]
        have to : ∀ a, a ≠ q → a ≠ person → t' a = t a := fun a e1 e2 => by rw [up, if_neg e1, if_neg e2]
        have old : ∀ a b, t' a = some b → (a = q ∧ b = person) ∨ (a = person ∧ b = q) ∨ (a ≠ q ∧ a ≠ person ∧ t a = some b) := by
          intro a b h
          by_cases e1 : a = q
          · subst e1; rw [tq] at h; exact Or.inl ⟨rfl, (Option.some.inj h).symm⟩
          · by_cases e2 : a = person
            · subst e2; rw [tp] at h; exact Or.inr (Or.inl ⟨rfl, (Option.some.inj h).symm⟩)
            · rw [to a e1 e2] at h; exact Or.inr (Or.inr ⟨e1, e2, h⟩)
        -- what begins so and is stable agrees with t'
        have agree : ∀ m, m ∈ rh_ext L k (pre ++ [q]) → rh_SM n L m → ∀ a b, t' a = some b → m.getD a 0 = b := by
          intro m hmem hs a b h
          obtain ⟨e1, e2⟩ := rh_ext_at hmem
          rw [h0] at e1 e2
          rcases old a b h with ⟨x1, x2⟩ | ⟨x1, x2⟩ | ⟨-, -, x3⟩
          · have := (hs.1 person hp).2.2
            rw [e1] at this
            rw [x1, x2]; exact this
          · rw [x1, x2]; exact e1
          · exact cs_agree (k := k) T0 e2 hs x3
        have inside : ∀ x, x < n → cs_blk n (rh_rk L) x t' = true → (rh_ext L k (pre ++ [q])).filter (rh_sm n L) = [] := by
          intro x hx hb
          obtain ⟨o, a, b, ho, b1, b2, b3, b4⟩ := cs_blk_iff.mp hb
          rw [List.filter_eq_nil_iff]
          intro m hmem hs
          rw [rh_sm_iff] at hs
          have g1 := agree m hmem hs o b b1
          have g2 := agree m hmem hs x a b2
          exact hs.2 x o hx ho (by rw [g2]; exact b3) (by rw [g1]; exact b4)
        by_cases hb : (cs_blk n (rh_rk L) person t' || cs_blk n (rh_rk L) q t') = true
        · rw [if_pos hb]
          have hz : (rh_ext L k (pre ++ [q])).filter (rh_sm n L) = [] := by
            rcases Bool.or_eq_true_iff.mp hb with h | h
            · exact inside person hp h
            · exact inside q hqn h
          rw [hz]
          rfl
        · rw [if_neg hb]
          have hb1 : ¬ cs_blk n (rh_rk L) person t' = true := fun h => hb (by rw [h]; rfl)
          have hb2 : ¬ cs_blk n (rh_rk L) q t' = true := fun h => hb (by rw [h, Bool.or_true])
          refine cs_spec hw k (person + 1) (pre ++ [q]) t' A (by omega) ⟨by rw [List.length_append, List.length_singleton, h0], fun a ha => ?_, fun a b h => ?_, fun a b a' b' g1 g2 g3 g4 => ?_⟩
          · rw [rh_getD_app, h0]
            by_cases e : a = person
            · rw [if_pos e, e]; exact tp
            · rw [if_neg e]
              have hne : a ≠ q := fun z => by
                have := h1 a (by omega)
                rw [z, hqt] at this
                cases this
              rw [to a hne e]
              exact h1 a (by omega)
          · rcases old a b h with ⟨x1, x2⟩ | ⟨x1, x2⟩ | ⟨x1, x2, x3⟩
            · subst x1; subst x2
              exact ⟨hqn, hp, tp, (rh_R hw).2.1 _ _ hp hqn hqk, Or.inr (Nat.lt_succ_self _)⟩
            · subst x1; subst x2
              exact ⟨hp, hqn, tq, hqk, Or.inl (Nat.lt_succ_self _)⟩
            · obtain ⟨c1, c2, c3, c4, c5⟩ := h2 a b x3
              refine ⟨c1, c2, ?_, c4, by omega⟩
              rw [to b (fun z => by rw [z, hqt] at c3; cases c3) (fun z => by rw [z, ht] at c3; cases c3)]
              exact c3
          · have hbn : b < n := by
              rcases old b b' g2 with ⟨x1, -⟩ | ⟨x1, -⟩ | ⟨-, -, x3⟩
              · rw [x1]; exact hqn
              · rw [x1]; exact hp
              · exact (h2 b b' x3).1
            have han : a < n := by
              rcases old a a' g1 with ⟨x1, -⟩ | ⟨x1, -⟩ | ⟨-, -, x3⟩
              · rw [x1]; exact hqn
              · rw [x1]; exact hp
              · exact (h2 a a' x3).1
            rcases old a a' g1 with ⟨x1, -⟩ | ⟨x1, -⟩ | ⟨-, -, x3⟩
            · exact hb2 (cs_blk_iff.mpr ⟨b, a', b', hbn, g2, x1 ▸ g1, x1 ▸ g3, x1 ▸ g4⟩)
            · exact hb1 (cs_blk_iff.mpr ⟨b, a', b', hbn, g2, x1 ▸ g1, x1 ▸ g3, x1 ▸ g4⟩)
            · rcases old b b' g2 with ⟨y1, -⟩ | ⟨y1, -⟩ | ⟨-, -, y3⟩
              · exact hb2 (cs_blk_iff.mpr ⟨a, b', a', han, g1, y1 ▸ g2, y1 ▸ g4, y1 ▸ g3⟩)
              · exact hb1 (cs_blk_iff.mpr ⟨a, b', a', han, g1, y1 ▸ g2, y1 ▸ g4, y1 ▸ g3⟩)
              · exact h3 a b a' b' x3 y3 g3 g4
      -- who is taken, or isn't possible, begins nothing stable
      have none' : ∀ q, q < n → q ≠ person → ¬ (t q = none ∧ rh_rk L person q < 8) → (rh_ext L k (pre ++ [q])).filter (rh_sm n L) = [] := by
        intro q hqn hqp hno
        rw [List.filter_eq_nil_iff]
        intro m hmem hs
        rw [rh_sm_iff] at hs
        obtain ⟨e1, e2⟩ := rh_ext_at hmem
        rw [h0] at e1 e2
        have hk8 := (hs.1 person hp).1
        have hinv := (hs.1 person hp).2.2
        rw [e1] at hk8 hinv
        have hlt : rh_rk L person q < 8 := by
          rcases (rh_rk_le hw hp).mp hk8 with e | e
          · exact absurd e.symm hqp
          · exact (rh_rk_lt hw hp).mpr e
        cases hq : t q with
        | none => exact hno ⟨hq, hlt⟩
        | some b =>
          have g1 := cs_agree (k := k) T0 e2 hs hq
          rw [hinv] at g1
          have g2 := (h2 q b hq).2.2.1
          rw [← g1, ht] at g2
          cases g2
      have fold : ∀ (l : List Nat) (A : rh_A), (∀ q, q ∈ l → q < n ∧ q ≠ person) → l.foldl (fun A q => if t q = none ∧ rh_rk L person q < 8 then cs_with n (rh_rk L) person t (cs_search n L (rh_rk L) k (person + 1)) A q else A) A
          = rh_fold n A (l.flatMap fun q => (rh_ext L k (pre ++ [q])).filter (rh_sm n L)) := by
        intro l
        induction l with
        | nil => intro A _; rfl
        | cons q l ih =>
          intro A hl
          rw [List.foldl_cons, List.flatMap_cons, rh_fold_app, ih _ fun x hx => hl x (List.mem_cons_of_mem _ hx)]
          congr 1
          obtain ⟨hqn, hqp⟩ := hl q List.mem_cons_self
          by_cases hc : t q = none ∧ rh_rk L person q < 8
          · rw [if_pos hc]; exact one A q (Or.inr hc) hqn
          · rw [if_neg hc, none' q hqn hqp hc]; rfl
      show cs_with n (rh_rk L) person t (cs_search n L (rh_rk L) k (person + 1)) ((L person).foldl _ A) person = _
      rw [fold (L person) A hLm, List.flatMap_append, rh_fold_app, one _ person (Or.inl rfl) hp, List.flatMap_cons, List.flatMap_nil, List.append_nil]
/-- from the start: no one has anybody -/
theorem cs_all (hw : rh_wf n L) (A : rh_A) : cs_search n L (rh_rk L) n 0 (fun _ => none) A = rh_fold n A ((rh_ext L n []).filter (rh_sm n L)) :=
  cs_spec hw n 0 [] (fun _ => none) A (Nat.zero_add n) ⟨rfl, fun a h => absurd h (Nat.not_lt_zero a), fun a b h => by (cases h), fun a b a' b' h => by (cases h)⟩
end CSA
end
section
/-! Partitions; the program's search for the first one. -/
def rh_PT (n : Nat) (L : Nat → List Nat) (m : List Nat) : Prop :=
  (∀ p, p < n → rh_rk L p (m.getD p 0) ≤ 8 ∧ m.getD p 0 < n) ∧ (∀ p q, p < n → q < n → m.getD p 0 = m.getD q 0 → p = q) ∧
  (∀ p q, p < n → q < n → m.getD q 0 = p → rh_rk L p q < rh_rk L p (m.getD p 0) → False) ∧
  ∀ i j, i < n → j < n → rh_rk L (m.getD i 0) (m.getD j 0) < rh_rk L (m.getD i 0) i → rh_rk L (m.getD j 0) (m.getD i 0) < rh_rk L (m.getD j 0) j → False
noncomputable def rh_pt (n : Nat) (L : Nat → List Nat) (m : List Nat) : Bool := @decide (rh_PT n L m) (Classical.propDecidable _)
theorem rh_pt_iff {n : Nat} {L : Nat → List Nat} {m : List Nat} : rh_pt n L m = true ↔ rh_PT n L m := @decide_eq_true_iff _ (Classical.propDecidable _)
/-- next ones fo, last ones le -/
def ps_keeps (rk : Nat → Nat → Nat) (x : Nat) (fo le : Nat → Option Nat) : Bool := match fo x, le x with
  | some f, some l => !decide (rk x l < rk x f)
  | _, _ => true
abbrev ps_S : Type := (Nat → Option Nat) × (Nat → Option Nat)
def ps_with (n : Nat) (rk : Nat → Nat → Nat) (person : Nat) (fo le : Nat → Option Nat) (go : (Nat → Option Nat) → (Nat → Option Nat) → Option ps_S) (q : Nat) : Option ps_S :=
  if le q ≠ none then none
  else if ps_keeps rk person (cs_up fo person (some q)) (cs_up le q (some person)) && ps_keeps rk q (cs_up fo person (some q)) (cs_up le q (some person)) && !cs_blk n rk q (cs_up le q (some person)) then
    go (cs_up fo person (some q)) (cs_up le q (some person))
  else none
def ps_first (n : Nat) (rk : Nat → Nat → Nat) (person : Nat) (fo le : Nat → Option Nat) (go : (Nat → Option Nat) → (Nat → Option Nat) → Option ps_S) : List Nat → Option ps_S
  | [] => ps_with n rk person fo le go person
  | q :: l => match (if rk person q < 8 then ps_with n rk person fo le go q else none) with
    | some r => some r
    | none => ps_first n rk person fo le go l
def ps_search (n : Nat) (L : Nat → List Nat) (rk : Nat → Nat → Nat) : Nat → Nat → (Nat → Option Nat) → (Nat → Option Nat) → Option ps_S
  | 0, _, fo, le => some (fo, le)
  | k + 1, person, fo, le => ps_first n rk person fo le (ps_search n L rk k (person + 1)) (L person)
def ps_T (n : Nat) (L : Nat → List Nat) (person : Nat) (pre : List Nat) (fo le : Nat → Option Nat) : Prop :=
  pre.length = person ∧ (∀ a, a < person → fo a = some (pre.getD a 0)) ∧ (∀ a, person ≤ a → fo a = none) ∧ (∀ b i, le b = some i ↔ i < person ∧ pre.getD i 0 = b) ∧
  (∀ a, a < person → pre.getD a 0 < n ∧ rh_rk L a (pre.getD a 0) ≤ 8) ∧ (∀ a i f, le a = some i → fo a = some f → ¬ rh_rk L a i < rh_rk L a f) ∧
  ∀ a b i j, le a = some i → le b = some j → rh_rk L a b < rh_rk L a i → rh_rk L b a < rh_rk L b j → False
/-- the answer of a search: the first one of l, if there is one -/
def ps_is (n : Nat) (l : List (List Nat)) (o : Option ps_S) : Prop := match l with
  | [] => o = none
  | m :: _ => ∃ fo le, o = some (fo, le) ∧ ∀ p, p < n → fo p = some (m.getD p 0)
theorem ps_is_app {n : Nat} {l l' : List (List Nat)} {o : Option ps_S} (h : (∃ m t, l = m :: t) ∧ ps_is n l o ∨ l = [] ∧ ps_is n l' o) : ps_is n (l ++ l') o := by
  rcases h with ⟨⟨m, t, rfl⟩, h⟩ | ⟨rfl, h⟩
  · exact h
  · exact h
section PSA
variable {n : Nat} {L : Nat → List Nat}
theorem ps_spec (hw : rh_wf n L) : ∀ (k person : Nat) (pre : List Nat) (fo le : Nat → Option Nat), person + k = n → ps_T n L person pre fo le →
    ps_is n ((rh_ext L k pre).filter (rh_pt n L)) (ps_search n L (rh_rk L) k person fo le)
  | 0, person, pre, fo, le, hk, T => by
    obtain ⟨h0, h1, h2, h3, h4, h5, h6⟩ := T
    have hs : rh_PT n L pre := by
      refine ⟨fun p hp => ⟨(h4 p (by omega)).2, (h4 p (by omega)).1⟩, fun p q hp hq e => ?_, fun p q hp hq e => ?_, fun i j hi hj => ?_⟩
      · have a1 := (h3 (pre.getD p 0) p).mpr ⟨by omega, rfl⟩
        have a2 := (h3 (pre.getD p 0) q).mpr ⟨by omega, e.symm⟩
        rw [a1] at a2
        exact Option.some.inj a2
      · exact h5 p q _ ((h3 p q).mpr ⟨by omega, e⟩) (h1 p (by omega))
      · exact h6 _ _ i j ((h3 _ i).mpr ⟨by omega, rfl⟩) ((h3 _ j).mpr ⟨by omega, rfl⟩)
    rw [rh_ext, List.filter_cons_of_pos (rh_pt_iff.mpr hs), List.filter_nil]
    exact ⟨fo, le, rfl, fun p hp => h1 p (by omega)⟩
  | k + 1, person, pre, fo, le, hk, T => by
    have hp : person < n := by omega
    have hLm := (hw.2.1 person hp).2
    obtain ⟨h0, h1, h2, h3, h4, h5, h6⟩ := T
    rw [rh_ext, h0, List.filter_flatMap]
    -- one try
    have one : ∀ q, q < n → rh_rk L person q ≤ 8 → ps_is n ((rh_ext L k (pre ++ [q])).filter (rh_pt n L)) (ps_with n (rh_rk L) person fo le (ps_search n L (rh_rk L) k (person + 1)) q) := by
      intro q hqn hqk
      have nil : (∀ m, m ∈ rh_ext L k (pre ++ [q]) → rh_PT n L m → False) → (rh_ext L k (pre ++ [q])).filter (rh_pt n L) = [] := fun h => by
        rw [List.filter_eq_nil_iff]
        intro m hm hs
        exact h m hm (rh_pt_iff.mp hs)
      unfold ps_with
      by_cases hl : le q ≠ none
      · rw [if_pos hl, nil]
        · rfl
        · intro m hm hs
          obtain ⟨e1, e2⟩ := rh_ext_at hm
          rw [h0] at e1 e2
          cases hq : le q with
          | none => exact hl hq
          | some i =>
            obtain ⟨i1, i2⟩ := (h3 q i).mp hq
            have := hs.2.1 i person (by omega) hp (by rw [e2 i i1, e1]; exact i2)
            omega
      · rw [if_neg hl]
        have hlq : le q = none := Classical.byContradiction hl
        have upf : ∀ a, cs_up fo person (some q) a = if a = person then some q else fo a := fun _ => rfl
        have upl : ∀ a, cs_up le q (some person) a = if a = q then some person else le a := fun _ => rfl
        generalize cs_up fo person (some q) = fo' at upf
        generalize cs_up le q (some person) = le' at upl
        have fp : fo' person = some q := by rw [upf, if_pos rfl]
        have lq : le' q = some person := by rw [upl, if_pos rfl]
        -- what the tries say of an assignment that begins so
        have lem : ∀ m, m ∈ rh_ext L k (pre ++ [q]) → ∀ b i, le' b = some i → i < n ∧ m.getD i 0 = b := by
          intro m hm b i h
          obtain ⟨e1, e2⟩ := rh_ext_at hm
          rw [h0] at e1 e2
          rw [upl] at h
          by_cases e : b = q
          · rw [if_pos e] at h
            have := Option.some.inj h
            subst this
            exact ⟨hp, e1.trans e.symm⟩
          · rw [if_neg e] at h
            obtain ⟨i1, i2⟩ := (h3 b i).mp h
            exact ⟨by omega, (e2 i i1).trans i2⟩
        have fom : ∀ m, m ∈ rh_ext L k (pre ++ [q]) → ∀ a f, fo' a = some f → a < n ∧ m.getD a 0 = f := by
          intro m hm a f h
          obtain ⟨e1, e2⟩ := rh_ext_at hm
          rw [h0] at e1 e2
          rw [upf] at h
          by_cases e : a = person
          · rw [if_pos e] at h
            rw [e]
            exact ⟨hp, e1.trans (Option.some.inj h)⟩
          · rw [if_neg e] at h
            by_cases hlt : a < person
            · rw [h1 a hlt] at h
              exact ⟨by omega, (e2 a hlt).trans (Option.some.inj h)⟩
            · rw [h2 a (by omega)] at h
              cases h
        have keepsNo : ∀ x, ps_keeps (rh_rk L) x fo' le' = false → (rh_ext L k (pre ++ [q])).filter (rh_pt n L) = [] := by
          intro x hx
          apply nil
          intro m hm hs
          unfold ps_keeps at hx
          cases hf : fo' x with
          | none => rw [hf] at hx; cases hx
          | some f =>
            cases hl2 : le' x with
            | none => rw [hf, hl2] at hx; cases hx
            | some i =>
              rw [hf, hl2] at hx
              have hlt : rh_rk L x i < rh_rk L x f := by simpa using hx
              obtain ⟨a1, a2⟩ := fom m hm x f hf
              obtain ⟨b1, b2⟩ := lem m hm x i hl2
              exact hs.2.2.1 x i a1 b1 b2 (by rw [a2]; exact hlt)
        have blkNo : cs_blk n (rh_rk L) q le' = true → (rh_ext L k (pre ++ [q])).filter (rh_pt n L) = [] := by
          intro hb
          apply nil
          intro m hm hs
          obtain ⟨o, a, b, ho, g1, g2, g3, g4⟩ := cs_blk_iff.mp hb
          obtain ⟨a1, a2⟩ := lem m hm q a g2
          obtain ⟨b1, b2⟩ := lem m hm o b g1
          refine hs.2.2.2 a b a1 b1 ?_ ?_
          · rw [a2, b2]; exact g3
          · rw [a2, b2]; exact g4
        by_cases hc : (ps_keeps (rh_rk L) person fo' le' && ps_keeps (rh_rk L) q fo' le' && !cs_blk n (rh_rk L) q le') = true
        · rw [if_pos hc]
          simp only [Bool.and_eq_true, Bool.not_eq_true'] at hc
          obtain ⟨⟨c1, c2⟩, c3⟩ := hc
          have kp : ∀ x, ps_keeps (rh_rk L) x fo' le' = true → ∀ i f, le' x = some i → fo' x = some f → ¬ rh_rk L x i < rh_rk L x f := by
            intro x hx i f g1 g2 hlt
            unfold ps_keeps at hx
            rw [g1, g2] at hx
            simp [hlt] at hx
          refine ps_spec hw k (person + 1) (pre ++ [q]) fo' le' (by omega) ⟨by rw [List.length_append, List.length_singleton, h0], fun a ha => ?_, fun a ha => ?_, fun b i => ?_, fun a ha => ?_, fun a i f g1 g2 => ?_, fun a b i j g1 g2 g3 g4 => ?_⟩
          · rw [rh_getD_app, h0, upf]
            by_cases e : a = person
            · rw [if_pos e, if_pos e]
            · rw [if_neg e, if_neg e]; exact h1 a (by omega)
          · rw [upf, if_neg (by omega)]; exact h2 a (by omega)
          · rw [upl, rh_getD_app, h0]
            by_cases e : b = q
            · rw [if_pos e]
              constructor
              · intro h
                have := Option.some.inj h
                subst this
                exact ⟨Nat.lt_succ_self _, by rw [if_pos rfl]; exact e.symm⟩
              · rintro ⟨i1, i2⟩
                by_cases ei : i = person
                · rw [ei]
                · rw [if_neg ei] at i2
                  have := (h3 b i).mpr ⟨by omega, i2⟩
                  rw [e, hlq] at this
                  cases this
            · rw [if_neg e, h3 b i]
              constructor
              · rintro ⟨i1, i2⟩
                exact ⟨by omega, by rw [if_neg (by omega)]; exact i2⟩
              · rintro ⟨i1, i2⟩
                by_cases ei : i = person
                · rw [if_pos ei] at i2
                  exact absurd i2.symm e
                · rw [if_neg ei] at i2
                  exact ⟨by omega, i2⟩
          · rw [rh_getD_app, h0]
            by_cases e : a = person
            · rw [if_pos e, e]; exact ⟨hqn, hqk⟩
            · rw [if_neg e]; exact h4 a (by omega)
          · by_cases e1 : a = person
            · rw [e1] at g1 g2 ⊢; exact kp person c1 i f g1 g2
            · by_cases e2 : a = q
              · rw [e2] at g1 g2 ⊢; exact kp q c2 i f g1 g2
              · rw [upl, if_neg e2] at g1
                rw [upf, if_neg e1] at g2
                exact h5 a i f g1 g2
          · have no : ∀ (x i o j : Nat), x = q → le' x = some i → le' o = some j → o < n → rh_rk L x o < rh_rk L x i → rh_rk L o x < rh_rk L o j → False := by
              intro x i o j ex k1 k2 k3 k4 k5
              rw [ex] at k1 k4 k5
              have := cs_blk_iff.mpr ⟨o, i, j, k3, k2, k1, k4, k5⟩
              rw [c3] at this
              cases this
            have bnd : ∀ b j, le' b = some j → b < n := by
              intro b j h
              rw [upl] at h
              by_cases e : b = q
              · rw [e]; exact hqn
              · rw [if_neg e] at h
                obtain ⟨j1, j2⟩ := (h3 b j).mp h
                rw [← j2]
                exact (h4 j j1).1
            by_cases ea : a = q
            · exact no a i b j ea g1 g2 (bnd b j g2) g3 g4
            · by_cases eb : b = q
              · exact no b j a i eb g2 g1 (bnd a i g1) g4 g3
              · rw [upl, if_neg ea] at g1
                rw [upl, if_neg eb] at g2
                exact h6 a b i j g1 g2 g3 g4
        · rw [if_neg hc]
          have hz : (rh_ext L k (pre ++ [q])).filter (rh_pt n L) = [] := by
            cases c1 : ps_keeps (rh_rk L) person fo' le' with
            | false => exact keepsNo person c1
            | true =>
              cases c2 : ps_keeps (rh_rk L) q fo' le' with
              | false => exact keepsNo q c2
              | true =>
                cases c3 : cs_blk n (rh_rk L) q le' with
                | true => exact blkNo c3
                | false => rw [c1, c2, c3] at hc; exact absurd rfl hc
          rw [hz]
          rfl
    have none' : ∀ q, q ≠ person → ¬ rh_rk L person q < 8 → (rh_ext L k (pre ++ [q])).filter (rh_pt n L) = [] := by
      intro q hqp hno
      rw [List.filter_eq_nil_iff]
      intro m hm hs
      obtain ⟨e1, -⟩ := rh_ext_at hm
      rw [h0] at e1
      have := ((rh_pt_iff.mp hs).1 person hp).1
      rw [e1] at this
      rcases (rh_rk_le hw hp).mp this with e | e
      · exact hqp e.symm
      · exact hno ((rh_rk_lt hw hp).mpr e)
    have fold : ∀ (l : List Nat), (∀ q, q ∈ l → q < n ∧ q ≠ person) → ps_is n ((l ++ [person]).flatMap fun q => (rh_ext L k (pre ++ [q])).filter (rh_pt n L)) (ps_first n (rh_rk L) person fo le (ps_search n L (rh_rk L) k (person + 1)) l) := by
      intro l
      induction l with
      | nil =>
        intro _
        rw [List.nil_append, List.flatMap_cons, List.flatMap_nil, List.append_nil]
        exact one person hp (by rw [rh_rk_self]; exact Nat.le_refl _)
      | cons q l ih =>
        intro hl
        obtain ⟨hqn, hqp⟩ := hl q List.mem_cons_self
        have ih := ih fun x hx => hl x (List.mem_cons_of_mem _ hx)
        rw [List.cons_append, List.flatMap_cons]
        unfold ps_first
        apply ps_is_app
        by_cases hc : rh_rk L person q < 8
        · rw [if_pos hc]
          have ho := one q hqn (by omega)
          cases hF : (rh_ext L k (pre ++ [q])).filter (rh_pt n L) with
          | nil =>
            rw [hF] at ho
            have ho : ps_with n (rh_rk L) person fo le (ps_search n L (rh_rk L) k (person + 1)) q = none := ho
            rw [ho]
            exact Or.inr ⟨rfl, ih⟩
          | cons m t =>
            rw [hF] at ho
            obtain ⟨f1, l1, e, hf⟩ := ho
            rw [e]
            exact Or.inl ⟨⟨m, t, rfl⟩, f1, l1, rfl, hf⟩
        · rw [if_neg hc, none' q hqp hc]
          exact Or.inr ⟨rfl, ih⟩
    exact fold (L person) hLm
theorem ps_all (hw : rh_wf n L) : ps_is n ((rh_ext L n []).filter (rh_pt n L)) (ps_search n L (rh_rk L) n 0 (fun _ => none) (fun _ => none)) :=
  ps_spec hw n 0 [] (fun _ => none) (fun _ => none) (Nat.zero_add n) ⟨rfl, fun a h => absurd h (Nat.not_lt_zero a), fun _ _ => rfl, fun b i => ⟨fun h => by (cases h), fun h => absurd h.1 (Nat.not_lt_zero i)⟩, fun a h => absurd h (Nat.not_lt_zero a), fun a i f h => by (cases h), fun a b i j h => by (cases h)⟩
/-- every assignment of ones that a person may have is among them -/
theorem rh_ext_all : ∀ (k : Nat) (pre m : List Nat), m.length = pre.length + k → (∀ i, i < pre.length → m.getD i 0 = pre.getD i 0) → (∀ i, pre.length ≤ i → i < pre.length + k → m.getD i 0 ∈ L i ∨ m.getD i 0 = i) → m ∈ rh_ext L k pre
  | 0, pre, m, h1, h2, _ => by
    rw [rh_ext, List.mem_singleton]
    apply List.ext_getElem (by omega)
    intro i a b
    have := h2 i b
    rw [List.getD_eq_getElem?_getD, List.getD_eq_getElem?_getD, List.getElem?_eq_getElem a, List.getElem?_eq_getElem b] at this
    exact this
  | k + 1, pre, m, h1, h2, h3 => by
    rw [rh_ext, List.mem_flatMap]
    refine ⟨m.getD pre.length 0, ?_, rh_ext_all k (pre ++ [m.getD pre.length 0]) m (by rw [List.length_append, List.length_singleton]; omega) (fun i hi => ?_) (fun i a b => ?_)⟩
    · rcases h3 pre.length (Nat.le_refl _) (by omega) with h | h
      · exact List.mem_append_left _ h
      · exact List.mem_append_right _ (List.mem_singleton.mpr h)
    · rw [List.length_append, List.length_singleton] at hi
      rw [rh_getD_app]
      by_cases e : i = pre.length
      · rw [if_pos e, e]
      · rw [if_neg e]; exact h2 i (by omega)
    · rw [List.length_append, List.length_singleton] at a b
      exact h3 i (by omega) (by omega)
/-- there is a first partition -/
theorem rh_pt_ex (hw : rh_wf n L) : ∃ m t, (rh_ext L n []).filter (rh_pt n L) = m :: t := by
  obtain ⟨f, g, hi, hk, hge, hst⟩ := ex_partition (rh_R hw)
  have hget : ∀ p, p < n → ((List.range n).map f).getD p 0 = f p := fun p hp => by
    rw [List.getD_eq_getElem?_getD, List.getElem?_map, List.getElem?_range hp]
    rfl
  have hin : (List.range n).map f ∈ (rh_ext L n []).filter (rh_pt n L) := by
    rw [List.mem_filter]
    refine ⟨rh_ext_all n [] _ (by simp) (fun i h => absurd h (Nat.not_lt_zero i)) (fun i _ h => ?_), rh_pt_iff.mpr ⟨fun p hp => ?_, fun p q hp hq e => ?_, fun p q hp hq e hlt => ?_, fun i j hi' hj h1 h2 => ?_⟩⟩
    · have hi' : i < n := by simpa using h
      rw [hget i hi']
      rcases (rh_rk_le hw hi').mp (hk i hi') with e | e
      · exact Or.inr e.symm
      · exact Or.inl e.1
    · rw [hget p hp]; exact ⟨hk p hp, (hi p hp).1⟩
    · rw [hget p hp, hget q hq] at e
      rw [← (hi p hp).2.2.1, ← (hi q hq).2.2.1, e]
    · rw [hget q hq] at e
      rw [hget p hp] at hlt
      have : g p = q := by rw [← e]; exact (hi q hq).2.2.1
      have h3 := hge p hp
      rw [this] at h3
      omega
    · rw [hget i hi', hget j hj] at h1 h2
      exact hst (f i) (f j) (hi i hi').1 (hi j hj).1 (by rw [(hi i hi').2.2.1]; exact h1) (by rw [(hi j hj).2.2.1]; exact h2)
  cases h : (rh_ext L n []).filter (rh_pt n L) with
  | nil => rw [h] at hin; exact absurd hin List.not_mem_nil
  | cons m t => exact ⟨m, t, rfl⟩
end PSA
end
section
/-! The reference's walk over the assignments: choices ch (none: not begun), with w, who stands recorded la. -/
def gw_pre (w : Nat → Nat) (p : Nat) : List Nat := (List.range p).map w
theorem gw_pre_len (w : Nat → Nat) (p : Nat) : (gw_pre w p).length = p := by simp [gw_pre]
theorem gw_pre_at {w : Nat → Nat} {p i : Nat} (h : i < p) : (gw_pre w p).getD i 0 = w i := by
  rw [gw_pre, List.getD_eq_getElem?_getD, List.getElem?_map, List.getElem?_range h]
  rfl
theorem gw_pre_succ (w : Nat → Nat) (p : Nat) : gw_pre w (p + 1) = gw_pre w p ++ [w p] := by
  rw [gw_pre, List.range_succ, List.map_append]
  rfl
theorem gw_pre_congr {w w' : Nat → Nat} {p : Nat} (h : ∀ i, i < p → w i = w' i) : gw_pre w p = gw_pre w' p := by
  apply List.map_congr_left
  intro i hi
  exact h i (List.mem_range.mp hi)
def gw_from (c : Option Nat) : Nat := match c with
  | none => 0
  | some c => c + 1
def gw_cho (L : Nat → List Nat) (p c : Nat) : Nat := (L p).getD c p
theorem gw_cho_get {L : Nat → List Nat} {p c : Nat} (h : c ≤ (L p).length) : (L p ++ [p])[c]? = some (gw_cho L p c) := by
  unfold gw_cho
  rw [List.getD_eq_getElem?_getD]
  by_cases e : c < (L p).length
  · rw [List.getElem?_append_left e, List.getElem?_eq_getElem e]
    rfl
  · have : c = (L p).length := by omega
    rw [List.getElem?_append_right (by omega), this, Nat.sub_self, List.getElem?_eq_none (Nat.le_refl _)]
    rfl
/-- what is still to come behind the choices at the persons below -/
def gw_rest (L : Nat → List Nat) (n : Nat) (ch : Nat → Option Nat) (w : Nat → Nat) : Nat → List (List Nat)
  | 0 => []
  | r + 1 => ((L r ++ [r]).drop (gw_from (ch r))).flatMap (fun q => rh_ext L (n - (r + 1)) (gw_pre w r ++ [q])) ++ gw_rest L n ch w r
theorem gw_rest_congr {L : Nat → List Nat} {n : Nat} {ch ch' : Nat → Option Nat} {w w' : Nat → Nat} : ∀ (p : Nat), (∀ i, i < p → ch i = ch' i) → (∀ i, i + 1 < p → w i = w' i) → gw_rest L n ch w p = gw_rest L n ch' w' p
  | 0, _, _ => rfl
  | r + 1, h1, h2 => by
    unfold gw_rest
    rw [h1 r (Nat.lt_succ_self r), gw_pre_congr (w := w) (w' := w') (p := r) (fun i hi => h2 i (by omega)), gw_rest_congr r (fun i hi => h1 i (by omega)) (fun i hi => h2 i (by omega))]
def gw_up {α : Type} (f : Nat → α) (a : Nat) (v : α) : Nat → α := fun x => if x = a then v else f x
theorem gw_up_self {α : Type} (f : Nat → α) (a : Nat) (v : α) : gw_up f a v a = v := if_pos rfl
theorem gw_up_ne {α : Type} (f : Nat → α) {a x : Nat} (v : α) (h : x ≠ a) : gw_up f a v x = f x := if_neg h
section GWA
variable {n : Nat} {L : Nat → List Nat} {T : List Nat → Bool}
theorem gw_skip {w : Nat → Nat} {p : Nat} : ∀ (d c : Nat), c + d ≤ (L p).length + 1 → (∀ i, c ≤ i → i < c + d → (rh_ext L (n - (p + 1)) (gw_pre w p ++ [gw_cho L p i])).filter T = []) →
    (((L p ++ [p]).drop c).flatMap (fun q => rh_ext L (n - (p + 1)) (gw_pre w p ++ [q]))).filter T = (((L p ++ [p]).drop (c + d)).flatMap (fun q => rh_ext L (n - (p + 1)) (gw_pre w p ++ [q]))).filter T
  | 0, c, _, _ => rfl
  | d + 1, c, hc, h => by
    have hl : c < (L p ++ [p]).length := by rw [List.length_append, List.length_singleton]; omega
    have hg : (L p ++ [p])[c]'hl = gw_cho L p c := by
      have := gw_cho_get (L := L) (p := p) (c := c) (by omega)
      rw [List.getElem?_eq_getElem hl] at this
      exact Option.some.inj this
    rw [List.drop_eq_getElem_cons hl, hg, List.flatMap_cons, List.filter_append, h c (Nat.le_refl c) (by omega), List.nil_append, gw_skip d (c + 1) (by omega) (fun i a b => h i (by omega) (by omega)), show c + 1 + d = c + (d + 1) by omega]
/-- a choice is made -/
theorem gw_take {ch : Nat → Option Nat} {w : Nat → Nat} {p c : Nat} (hf : gw_from (ch p) ≤ c) (hc : c ≤ (L p).length) (h : ∀ i, gw_from (ch p) ≤ i → i < c → (rh_ext L (n - (p + 1)) (gw_pre w p ++ [gw_cho L p i])).filter T = []) :
    (gw_rest L n ch w (p + 1)).filter T = (rh_ext L (n - (p + 1)) (gw_pre (gw_up w p (gw_cho L p c)) (p + 1)) ++ gw_rest L n (gw_up ch p (some c)) (gw_up w p (gw_cho L p c)) (p + 1)).filter T := by
  have hl : c < (L p ++ [p]).length := by rw [List.length_append, List.length_singleton]; omega
  have hg : (L p ++ [p])[c]'hl = gw_cho L p c := by
    have := gw_cho_get (L := L) (p := p) (c := c) hc
    rw [List.getElem?_eq_getElem hl] at this
    exact Option.some.inj this
  have hw : gw_pre (gw_up w p (gw_cho L p c)) p = gw_pre w p := gw_pre_congr fun i hi => gw_up_ne _ _ (by omega)
  rw [gw_pre_succ, hw, gw_up_self]
  show (((L p ++ [p]).drop (gw_from (ch p))).flatMap _ ++ gw_rest L n ch w p).filter T = (rh_ext L (n - (p + 1)) (gw_pre w p ++ [gw_cho L p c]) ++ (((L p ++ [p]).drop (gw_from (gw_up ch p (some c) p))).flatMap _ ++ gw_rest L n (gw_up ch p (some c)) (gw_up w p (gw_cho L p c)) p)).filter T
  rw [hw, gw_up_self, gw_rest_congr (ch := gw_up ch p (some c)) (ch' := ch) (w := gw_up w p (gw_cho L p c)) (w' := w) p (fun i hi => gw_up_ne _ _ (by omega)) (fun i hi => gw_up_ne _ _ (by omega))]
  have hs := gw_skip (n := n) (T := T) (w := w) (p := p) (c - gw_from (ch p)) (gw_from (ch p)) (by omega) (fun i a b => h i a (by omega))
  rw [show gw_from (ch p) + (c - gw_from (ch p)) = c by omega] at hs
  rw [List.filter_append, hs, List.drop_eq_getElem_cons hl, hg, List.flatMap_cons]
  simp only [List.filter_append, List.append_assoc]
  rfl
/-- none is left -/
theorem gw_none {ch : Nat → Option Nat} {w : Nat → Nat} {p : Nat} (hf : gw_from (ch p) ≤ (L p).length + 1) (h : ∀ i, gw_from (ch p) ≤ i → i ≤ (L p).length → (rh_ext L (n - (p + 1)) (gw_pre w p ++ [gw_cho L p i])).filter T = []) :
    (gw_rest L n ch w (p + 1)).filter T = (gw_rest L n ch w p).filter T := by
  have hs := gw_skip (n := n) (T := T) (w := w) (p := p) ((L p).length + 1 - gw_from (ch p)) (gw_from (ch p)) (by omega) (fun i a b => h i a (by omega))
  rw [show gw_from (ch p) + ((L p).length + 1 - gw_from (ch p)) = (L p).length + 1 by omega] at hs
  show (((L p ++ [p]).drop (gw_from (ch p))).flatMap _ ++ gw_rest L n ch w p).filter T = _
  rw [List.filter_append, hs, List.drop_eq_nil_of_le (by rw [List.length_append, List.length_singleton]; exact Nat.le_refl _), List.flatMap_nil, List.filter_nil, List.nil_append]
/-- a person is begun -/
theorem gw_begin {ch : Nat → Option Nat} {w : Nat → Nat} {p : Nat} (hp : p < n) (hc : ch p = none) : rh_ext L (n - p) (gw_pre w p) ++ gw_rest L n ch w p = gw_rest L n ch w (p + 1) := by
  show _ = ((L p ++ [p]).drop (gw_from (ch p))).flatMap _ ++ gw_rest L n ch w p
  rw [hc, show n - p = (n - (p + 1)) + 1 by omega, rh_ext, gw_pre_len]
  rfl
end GWA
/-- how far the walk is from its end -/
def gw_wt : Nat → Nat
  | 0 => 1
  | k + 1 => 9 * (gw_wt k + 1) + 1
theorem gw_wt_pos : ∀ k, 1 ≤ gw_wt k
  | 0 => Nat.le_refl _
  | k + 1 => Nat.le_add_left _ _
def gw_mu (n : Nat) (ch : Nat → Option Nat) : Nat → Nat
  | 0 => 0
  | r + 1 => (9 - gw_from (ch r)) * (gw_wt (n - (r + 1)) + 1) + 1 + gw_mu n ch r
def gw_m (n : Nat) (ch : Nat → Option Nat) (p : Nat) : Nat := if p < n then gw_mu n ch (p + 1) else 1 + gw_mu n ch p
theorem gw_mu_congr {n : Nat} {ch ch' : Nat → Option Nat} : ∀ (p : Nat), (∀ i, i < p → ch i = ch' i) → gw_mu n ch p = gw_mu n ch' p
  | 0, _ => rfl
  | r + 1, h => by
    unfold gw_mu
    rw [h r (Nat.lt_succ_self r), gw_mu_congr r fun i hi => h i (by omega)]
theorem gw_m_take {n : Nat} {ch : Nat → Option Nat} {p c : Nat} (hp : p < n) (hf : gw_from (ch p) ≤ c) (hc : c ≤ 8) (hn : p + 1 < n → ch (p + 1) = none) : gw_m n (gw_up ch p (some c)) (p + 1) < gw_m n ch p := by
  have e0 : gw_mu n (gw_up ch p (some c)) p = gw_mu n ch p := gw_mu_congr p fun i hi => gw_up_ne _ _ (by omega)
  have e1 : gw_mu n (gw_up ch p (some c)) (p + 1) = (9 - (c + 1)) * (gw_wt (n - (p + 1)) + 1) + 1 + gw_mu n ch p := by
    show (9 - gw_from (gw_up ch p (some c) p)) * _ + 1 + gw_mu n (gw_up ch p (some c)) p = _
    rw [gw_up_self, e0]
    rfl
  have e2 : gw_mu n ch (p + 1) = (9 - gw_from (ch p)) * (gw_wt (n - (p + 1)) + 1) + 1 + gw_mu n ch p := rfl
  have e3 : (9 - (c + 1)) * (gw_wt (n - (p + 1)) + 1) + (gw_wt (n - (p + 1)) + 1) ≤ (9 - gw_from (ch p)) * (gw_wt (n - (p + 1)) + 1) := by
    rw [← Nat.succ_mul]
    exact Nat.mul_le_mul_right _ (by omega)
  unfold gw_m
  rw [if_pos hp]
  by_cases hq : p + 1 < n
  · rw [if_pos hq]
    show (9 - gw_from (gw_up ch p (some c) (p + 1))) * (gw_wt (n - (p + 1 + 1)) + 1) + 1 + gw_mu n (gw_up ch p (some c)) (p + 1) < _
    rw [gw_up_ne _ _ (by omega), hn hq, e1, e2]
    have e4 : gw_wt (n - (p + 1)) = 9 * (gw_wt (n - (p + 1 + 1)) + 1) + 1 := by
      rw [show n - (p + 1) = (n - (p + 1 + 1)) + 1 by omega]
      rfl
    show (9 - 0) * (gw_wt (n - (p + 1 + 1)) + 1) + 1 + _ < _
    omega
  · have e5 := gw_wt_pos (n - (p + 1))
    rw [if_neg hq, e1, e2]
    omega
theorem gw_m_none {n : Nat} {ch : Nat → Option Nat} {p : Nat} {v : Option Nat} (hp : p + 1 < n) : gw_m n (gw_up ch (p + 1) v) p < gw_m n ch (p + 1) := by
  unfold gw_m
  rw [if_pos hp, if_pos (show p < n by omega), gw_mu_congr (ch := gw_up ch (p + 1) v) (ch' := ch) (p + 1) fun i hi => gw_up_ne _ _ (by omega)]
  show gw_mu n ch (p + 1) < (9 - gw_from (ch (p + 1))) * _ + 1 + gw_mu n ch (p + 1)
  omega
theorem gw_m_leaf {n : Nat} {ch : Nat → Option Nat} {p : Nat} (hp : p + 1 = n) : gw_m n ch p < gw_m n ch (p + 1) := by
  unfold gw_m
  rw [if_pos (show p < n by omega), if_neg (show ¬ p + 1 < n by omega)]
  omega
/-- nobody who stands recorded would rather have p, who would rather have it than o -/
def gw_stay (n : Nat) (rk : Nat → Nat → Nat) (la : Nat → Option Nat) (p o : Nat) : Prop := ∀ x y, x < n → la x = some y → x ≠ p → rk p x < 8 → rk p x < rk p o → rk x p < rk x y → False
def gs_ok (n : Nat) (rk : Nat → Nat → Nat) (w : Nat → Nat) (la : Nat → Option Nat) (p q : Nat) : Prop :=
  rk p q ≤ 8 ∧ (∀ r, r < p → (w r = p ↔ q = r) ∧ (w r ≠ q ∨ r = q)) ∧ gw_stay n rk la q p ∧ gw_stay n rk la p q
def gp_ok (n : Nat) (rk : Nat → Nat → Nat) (w : Nat → Nat) (la : Nat → Option Nat) (p q : Nat) : Prop :=
  rk p q ≤ 8 ∧ (∀ r, r < p → w r ≠ q ∧ (w r ≠ p ∨ rk p q ≤ rk p r)) ∧ (p ≤ q ∨ rk q (w q) ≤ rk q p) ∧ gw_stay n rk la q p
def gs_Good (n : Nat) (rk : Nat → Nat → Nat) (w : Nat → Nat) (p : Nat) : Prop := ∀ r, r < p → w r < n ∧ rk r (w r) ≤ 8 ∧ ∀ s, s < r → (w s = r ↔ w r = s) ∧ (w s ≠ w r ∨ s = w r)
def gp_Good (n : Nat) (rk : Nat → Nat → Nat) (w : Nat → Nat) (p : Nat) : Prop := ∀ r, r < p → w r < n ∧ rk r (w r) ≤ 8 ∧ (∀ s, s < r → w s ≠ w r ∧ (w s ≠ r ∨ rk r (w r) ≤ rk r s)) ∧ (r ≤ w r ∨ rk (w r) (w (w r)) ≤ rk (w r) r)
def gs_LA (w : Nat → Nat) (p : Nat) (la : Nat → Option Nat) : Prop := ∀ x y, la x = some y ↔ ∃ r, r < p ∧ ((x = r ∧ y = w r) ∨ (x = w r ∧ y = r))
def gp_LA (w : Nat → Nat) (p : Nat) (la : Nat → Option Nat) : Prop := ∀ x y, la x = some y ↔ y < p ∧ w y = x
section GWB
variable {n : Nat} {L : Nat → List Nat} {w : Nat → Nat} {la : Nat → Option Nat} {p q : Nat}
/-- what doesn't go begins nothing stable -/
theorem gs_sound (hp : p < n) (hq : q < n) (hG : gs_Good n (rh_rk L) w p) (hA : gs_LA w p la) (h : ¬ gs_ok n (rh_rk L) w la p q) (k : Nat) : (rh_ext L k (gw_pre w p ++ [q])).filter (rh_sm n L) = [] := by
  rw [List.filter_eq_nil_iff]
  intro m hm hs
  rw [rh_sm_iff] at hs
  obtain ⟨e1, e2⟩ := rh_ext_at hm
  rw [gw_pre_len] at e1 e2
  have em : ∀ r, r < p → m.getD r 0 = w r := fun r hr => by rw [e2 r hr, gw_pre_at hr]
  have inv : ∀ a, a < n → m.getD (m.getD a 0) 0 = a := fun a ha => (hs.1 a ha).2.2
  have agree : ∀ x y, la x = some y → m.getD x 0 = y := by
    intro x y hxy
    obtain ⟨r, hr, ⟨x1, x2⟩ | ⟨x1, x2⟩⟩ := (hA x y).mp hxy
    · rw [x1, x2]; exact em r hr
    · have := inv r (by omega)
      rw [em r hr] at this
      rw [x1, x2]; exact this
  have mq : m.getD q 0 = p := by have := inv p hp; rw [e1] at this; exact this
  apply h
  refine ⟨?_, fun r hr => ⟨⟨fun z => ?_, fun z => ?_⟩, Or.inl fun z => ?_⟩, fun x y hx g1 g2 g3 g4 g5 => ?_, fun x y hx g1 g2 g3 g4 g5 => ?_⟩
  · have := (hs.1 p hp).1
    rw [e1] at this
    exact this
  · have := inv r (by omega)
    rw [em r hr, z, e1] at this
    exact this
  · rw [← em r hr, ← z]; exact mq
  · have := inv r (by omega)
    rw [em r hr, z, mq] at this
    omega
  · exact hs.2 q x hq hx (by rw [mq]; exact g4) (by rw [agree x y g1]; exact g5)
  · exact hs.2 p x hp hx (by rw [e1]; exact g4) (by rw [agree x y g1]; exact g5)
theorem gp_sound (hp : p < n) (hq : q < n) (hA : gp_LA w p la) (h : ¬ gp_ok n (rh_rk L) w la p q) (k : Nat) : (rh_ext L k (gw_pre w p ++ [q])).filter (rh_pt n L) = [] := by
  rw [List.filter_eq_nil_iff]
  intro m hm hs
  rw [rh_pt_iff] at hs
  obtain ⟨e1, e2⟩ := rh_ext_at hm
  rw [gw_pre_len] at e1 e2
  have em : ∀ r, r < p → m.getD r 0 = w r := fun r hr => by rw [e2 r hr, gw_pre_at hr]
  apply h
  refine ⟨?_, fun r hr => ⟨fun z => ?_, ?_⟩, ?_, fun x y hx g1 g2 g3 g4 g5 => ?_⟩
  · have := (hs.1 p hp).1
    rw [e1] at this
    exact this
  · have := hs.2.1 r p (by omega) hp (by rw [em r hr, e1]; exact z)
    omega
  · by_cases z : w r = p
    · right
      have := hs.2.2.1 p r hp (by omega) (by rw [em r hr]; exact z)
      rw [e1] at this
      exact Nat.le_of_not_lt this
    · exact Or.inl z
  · by_cases z : p ≤ q
    · exact Or.inl z
    · right
      have := hs.2.2.1 q p hq hp e1
      rw [em q (by omega)] at this
      exact Nat.le_of_not_lt this
  · obtain ⟨y1, y2⟩ := (hA x y).mp g1
    have ey : m.getD y 0 = x := by rw [em y y1]; exact y2
    exact hs.2.2.2 p y hp (by omega) (by rw [e1, ey]; exact g4) (by rw [e1, ey]; exact g5)
theorem gs_next (hq : q < n) (hG : gs_Good n (rh_rk L) w p) (h : gs_ok n (rh_rk L) w la p q) : gs_Good n (rh_rk L) (gw_up w p q) (p + 1) := by
  intro r hr
  by_cases e : r = p
  · subst e
    rw [gw_up_self]
    refine ⟨hq, h.1, fun s hs => ?_⟩
    rw [gw_up_ne _ _ (by omega)]
    exact ⟨(h.2.1 s hs).1, (h.2.1 s hs).2⟩
  · obtain ⟨a1, a2, a3⟩ := hG r (by omega)
    rw [gw_up_ne _ _ e]
    refine ⟨a1, a2, fun s hs => ?_⟩
    rw [gw_up_ne _ _ (show s ≠ p by omega)]
    exact a3 s hs
theorem gp_next (hq : q < n) (hG : gp_Good n (rh_rk L) w p) (h : gp_ok n (rh_rk L) w la p q) : gp_Good n (rh_rk L) (gw_up w p q) (p + 1) := by
  intro r hr
  by_cases e : r = p
  · subst e
    rw [gw_up_self]
    refine ⟨hq, h.1, fun s hs => ?_, ?_⟩
    · rw [gw_up_ne _ _ (by omega)]
      exact h.2.1 s hs
    · by_cases z : q = r
      · exact Or.inl (by omega)
      · rw [gw_up_ne _ _ z]
        exact h.2.2.1
  · obtain ⟨a1, a2, a3, a4⟩ := hG r (by omega)
    rw [gw_up_ne _ _ e]
    refine ⟨a1, a2, fun s hs => ?_, ?_⟩
    · rw [gw_up_ne _ _ (show s ≠ p by omega)]
      exact a3 s hs
    · rcases a4 with a4 | a4
      · exact Or.inl a4
      · by_cases z : w r = p
        · exact Or.inl (by omega)
        · rw [gw_up_ne _ _ z]
          exact Or.inr a4
/-- the last person stands: the record is looked at -/
theorem gs_leaf (hw : rh_wf n L) (hG : gs_Good n (rh_rk L) w n) : rh_SM n L (gw_pre w n) ↔ ∀ a b, a < b → b < n → rh_rk L a b < 8 → rh_rk L a b < rh_rk L a (w a) → rh_rk L b a < rh_rk L b (w b) → False := by
  have at' : ∀ a, a < n → (gw_pre w n).getD a 0 = w a := fun a ha => gw_pre_at ha
  constructor
  · intro hs a b hab hb _ h1 h2
    exact hs.2 a b (by omega) hb (by rw [at' a (by omega)]; exact h1) (by rw [at' b hb]; exact h2)
  · intro h
    refine ⟨fun a ha => ?_, fun a b ha hb h1 h2 => ?_⟩
    · obtain ⟨a1, a2, a3⟩ := hG a ha
      rw [at' a ha]
      refine ⟨a2, a1, ?_⟩
      rw [at' (w a) a1]
      rcases Nat.lt_trichotomy (w a) a with z | z | z
      · exact ((a3 (w a) z).1).mpr rfl
      · rw [z]; exact z
      · exact ((hG (w a) a1).2.2 a z).1.mp rfl
    · rw [at' a ha] at h1
      rw [at' b hb] at h2
      have k1 := (hG a ha).2.1
      have k2 := (hG b hb).2.1
      rcases Nat.lt_trichotomy a b with z | z | z
      · exact h a b z hb (by omega) h1 h2
      · subst z
        rw [rh_rk_self] at h1
        omega
      · exact h b a z ha (by omega) h2 h1
theorem gp_leaf (hw : rh_wf n L) (hG : gp_Good n (rh_rk L) w n) (hA : gp_LA w n la) :
    rh_PT n L (gw_pre w n) ↔ ∀ a b i j, a < b → b < n → la a = some i → la b = some j → rh_rk L a b < 8 → rh_rk L a b < rh_rk L a i → rh_rk L b a < rh_rk L b j → False := by
  have at' : ∀ a, a < n → (gw_pre w n).getD a 0 = w a := fun a ha => gw_pre_at ha
  constructor
  · intro hs a b i j hab hb h1 h2 _ h3 h4
    obtain ⟨i1, i2⟩ := (hA a i).mp h1
    obtain ⟨j1, j2⟩ := (hA b j).mp h2
    exact hs.2.2.2 i j i1 j1 (by rw [at' i i1, at' j j1, i2, j2]; exact h3) (by rw [at' i i1, at' j j1, i2, j2]; exact h4)
  · intro h
    refine ⟨fun a ha => ?_, fun a b ha hb e => ?_, fun a b ha hb e hlt => ?_, fun i j hi hj h1 h2 => ?_⟩
    · rw [at' a ha]; exact ⟨(hG a ha).2.1, (hG a ha).1⟩
    · rw [at' a ha, at' b hb] at e
      rcases Nat.lt_trichotomy a b with z | z | z
      · exact absurd e ((hG b hb).2.2.1 a z).1
      · exact z
      · exact absurd e.symm ((hG a ha).2.2.1 b z).1
    · rw [at' b hb] at e
      rw [at' a ha] at hlt
      rcases Nat.lt_trichotomy b a with z | z | z
      · rcases ((hG a ha).2.2.1 b z).2 with y | y
        · exact y e
        · omega
      · subst z
        rw [e] at hlt
        exact Nat.lt_irrefl _ hlt
      · rcases (hG b hb).2.2.2 with y | y
        · omega
        · rw [e] at y
          omega
    · rw [at' i hi, at' j hj] at h1 h2
      have wi := (hG i hi).1
      have wj := (hG j hj).1
      have ki : rh_rk L (w i) i ≤ 8 := (rh_R hw).2.1 _ _ hi wi (hG i hi).2.1
      have kj : rh_rk L (w j) j ≤ 8 := (rh_R hw).2.1 _ _ hj wj (hG j hj).2.1
      have li := (hA (w i) i).mpr ⟨hi, rfl⟩
      have lj := (hA (w j) j).mpr ⟨hj, rfl⟩
      rcases Nat.lt_trichotomy (w i) (w j) with z | z | z
      · exact h _ _ i j z wj li lj (by omega) h1 h2
      · rw [← z, rh_rk_self] at h1
        omega
      · exact h _ _ j i z wi lj li (by omega) h2 h1
/-- everybody has a last one then -/
theorem gp_full (hG : gp_Good n (rh_rk L) w n) (hA : gp_LA w n la) {x : Nat} (hx : x < n) : ∃ y, y < n ∧ la x = some y := by
  obtain ⟨i, hi, e⟩ := ex_surj n w (fun i hi => (hG i hi).1) (fun i j hi hj e => by
    rcases Nat.lt_trichotomy i j with z | z | z
    · exact absurd e ((hG j hj).2.2.1 i z).1
    · exact z
    · exact absurd e.symm ((hG i hi).2.2.1 j z).1) x hx
  exact ⟨i, hi, (hA x i).mpr ⟨hi, e⟩⟩
/-- the records as they are written and taken back -/
theorem gs_LA_put (hA : gs_LA w p la) (hq : gs_Good n (rh_rk L) (gw_up w p q) (p + 1)) : gs_LA (gw_up w p q) (p + 1) (gw_up (gw_up la q (some p)) p (some q)) := by
  have hp := hq p (Nat.lt_succ_self p)
  rw [gw_up_self] at hp
  have hs : ∀ s, s < p → (w s = p ↔ q = s) ∧ (w s ≠ q ∨ s = q) := fun s hs => by
    have := hp.2.2 s hs
    rw [gw_up_ne _ _ (by omega)] at this
    exact this
  intro x y
  by_cases e1 : x = p
  · subst e1
    rw [gw_up_self]
    constructor
    · intro h
      exact ⟨x, Nat.lt_succ_self x, Or.inl ⟨rfl, by rw [gw_up_self]; exact (Option.some.inj h).symm⟩⟩
    · rintro ⟨r, hr, ⟨r1, r2⟩ | ⟨r1, r2⟩⟩
      · subst r1; rw [gw_up_self] at r2; rw [r2]
      · by_cases er : r = x
        · subst er; rw [gw_up_self] at r1; rw [r2, r1]
        · rw [gw_up_ne _ _ er] at r1
          rw [r2, (hs r (by omega)).1.mp r1.symm]
  · rw [gw_up_ne _ _ e1]
    by_cases e2 : x = q
    · subst e2
      rw [gw_up_self]
      constructor
      · intro h
        exact ⟨p, Nat.lt_succ_self p, Or.inr ⟨by rw [gw_up_self], (Option.some.inj h).symm⟩⟩
      · rintro ⟨r, hr, ⟨r1, r2⟩ | ⟨r1, r2⟩⟩
        · subst r1
          rw [gw_up_ne _ _ e1] at r2
          rw [r2, (hs x (by omega)).1.mpr rfl]
        · by_cases er : r = p
          · rw [r2, er]
          · rw [gw_up_ne _ _ er] at r1
            rcases (hs r (by omega)).2 with z | z
            · exact absurd r1.symm z
            · have := (hs r (by omega)).1.mpr z.symm
              rw [this] at r1
              exact absurd r1 e1
    · rw [gw_up_ne _ _ e2, hA x y]
      constructor
      · rintro ⟨r, hr, h⟩
        refine ⟨r, by omega, ?_⟩
        rw [gw_up_ne _ _ (by omega)]
        exact h
      · rintro ⟨r, hr, h⟩
        have er : r ≠ p := fun z => by
          subst z
          rw [gw_up_self] at h
          rcases h with ⟨h, -⟩ | ⟨h, -⟩
          · exact e1 h
          · exact e2 h
        rw [gw_up_ne _ _ er] at h
        exact ⟨r, by omega, h⟩
theorem gs_LA_back (hA : gs_LA w (p + 1) la) (hG : gs_Good n (rh_rk L) w (p + 1)) (hle : p ≤ w p) : gs_LA w p (gw_up (gw_up la (w p) none) p none) := by
  have hs := (hG p (Nat.lt_succ_self p)).2.2
  intro x y
  have no : ∀ r, r < p → w r ≠ p ∧ w r ≠ w p := fun r hr => by
    have h1 := hs r hr
    refine ⟨fun z => ?_, ?_⟩
    · have := h1.1.mp z
      omega
    · rcases h1.2 with z | z
      · exact z
      · omega
  by_cases e1 : x = p
  · subst e1
    rw [gw_up_self]
    constructor
    · intro h; cases h
    · rintro ⟨r, hr, ⟨r1, r2⟩ | ⟨r1, r2⟩⟩
      · omega
      · exact absurd r1.symm (no r hr).1
  · rw [gw_up_ne _ _ e1]
    by_cases e2 : x = w p
    · rw [e2, gw_up_self]
      constructor
      · intro h; cases h
      · rintro ⟨r, hr, ⟨r1, r2⟩ | ⟨r1, r2⟩⟩
        · omega
        · exact absurd r1.symm (no r hr).2
    · rw [gw_up_ne _ _ e2, hA x y]
      constructor
      · rintro ⟨r, hr, h⟩
        have er : r ≠ p := fun z => by
          subst z
          rcases h with ⟨h, -⟩ | ⟨h, -⟩
          · exact e1 h
          · exact e2 h
        exact ⟨r, by omega, h⟩
      · rintro ⟨r, hr, h⟩
        exact ⟨r, by omega, h⟩
theorem gs_LA_stay (hA : gs_LA w (p + 1) la) (hG : gs_Good n (rh_rk L) w (p + 1)) (hlt : w p < p) : gs_LA w p la := by
  have hs := ((hG p (Nat.lt_succ_self p)).2.2 (w p) hlt).1.mpr rfl
  intro x y
  rw [hA x y]
  constructor
  · rintro ⟨r, hr, h⟩
    by_cases er : r = p
    · subst er
      refine ⟨w r, hlt, ?_⟩
      rcases h with ⟨h1, h2⟩ | ⟨h1, h2⟩
      · exact Or.inr ⟨by rw [hs]; exact h1, h2⟩
      · exact Or.inl ⟨h1, by rw [hs]; exact h2⟩
    · exact ⟨r, by omega, h⟩
  · rintro ⟨r, hr, h⟩
    exact ⟨r, by omega, h⟩
theorem gp_LA_put (hA : gp_LA w p la) (hno : ∀ r, r < p → w r ≠ q) : gp_LA (gw_up w p q) (p + 1) (gw_up la q (some p)) := by
  intro x y
  by_cases e : x = q
  · subst e
    rw [gw_up_self]
    constructor
    · intro h
      have := Option.some.inj h
      subst this
      exact ⟨Nat.lt_succ_self _, gw_up_self _ _ _⟩
    · rintro ⟨h1, h2⟩
      by_cases ey : y = p
      · rw [ey]
      · rw [gw_up_ne _ _ ey] at h2
        exact absurd h2 (hno y (by omega))
  · rw [gw_up_ne _ _ e, hA x y]
    constructor
    · rintro ⟨h1, h2⟩
      exact ⟨by omega, by rw [gw_up_ne _ _ (by omega)]; exact h2⟩
    · rintro ⟨h1, h2⟩
      by_cases ey : y = p
      · subst ey
        rw [gw_up_self] at h2
        exact absurd h2.symm e
      · rw [gw_up_ne _ _ ey] at h2
        exact ⟨by omega, h2⟩
theorem gp_LA_back (hA : gp_LA w (p + 1) la) (hno : ∀ r, r < p → w r ≠ w p) : gp_LA w p (gw_up la (w p) none) := by
  intro x y
  by_cases e : x = w p
  · rw [e, gw_up_self]
    constructor
    · intro h; cases h
    · rintro ⟨h1, h2⟩
      exact absurd h2 (hno y h1)
  · rw [gw_up_ne _ _ e, hA x y]
    constructor
    · rintro ⟨h1, h2⟩
      refine ⟨?_, h2⟩
      have : y ≠ p := fun z => e (by rw [← h2, z])
      omega
    · rintro ⟨h1, h2⟩
      exact ⟨by omega, h2⟩
end GWB
end
section
/-! Rounds of a permutation; counting; the lists' changes. -/
def cy_it (F : Nat → Nat) : Nat → Nat → Nat
  | 0, p => p
  | k + 1, p => F (cy_it F k p)
theorem cy_it_lt {n : Nat} {F : Nat → Nat} (hF : ∀ i, i < n → F i < n) {p : Nat} (hp : p < n) : ∀ k, cy_it F k p < n
  | 0 => hp
  | k + 1 => hF _ (cy_it_lt hF hp k)
theorem cy_it_add {F : Nat → Nat} {p : Nat} (a : Nat) : ∀ c, cy_it F (a + c) p = cy_it F c (cy_it F a p)
  | 0 => rfl
  | c + 1 => by
    show F (cy_it F (a + c) p) = F (cy_it F c (cy_it F a p))
    rw [cy_it_add a c]
theorem cy_cancel {n : Nat} {F : Nat → Nat} (hF : ∀ i, i < n → F i < n) (hI : ∀ i j, i < n → j < n → F i = F j → i = j) : ∀ (a x y : Nat), x < n → y < n → cy_it F a x = cy_it F a y → x = y
  | 0, _, _, _, _, h => h
  | a + 1, x, y, hx, hy, h => cy_cancel hF hI a x y hx hy (hI _ _ (cy_it_lt hF hx a) (cy_it_lt hF hy a) h)
/-- k is how many a party of p has -/
def cy_is (F : Nat → Nat) (p k : Nat) : Prop := 1 ≤ k ∧ cy_it F k p = p ∧ ∀ j, 1 ≤ j → j < k → cy_it F j p ≠ p
theorem cy_one {F : Nat → Nat} {p k k' : Nat} (h : cy_is F p k) (h' : cy_is F p k') : k = k' := by
  rcases Nat.lt_trichotomy k k' with e | e | e
  · exact absurd h.2.1 (h'.2.2 k h.1 e)
  · exact e
  · exact absurd h'.2.1 (h.2.2 k' h'.1 e)
theorem cy_ex {n : Nat} {F : Nat → Nat} (hF : ∀ i, i < n → F i < n) (hI : ∀ i j, i < n → j < n → F i = F j → i = j) {p : Nat} (hp : p < n) : ∃ k, k ≤ n ∧ cy_is F p k := by
  obtain ⟨i, j, hij, hj, e⟩ := ex_pigeon n (fun i => cy_it F i p) (fun i _ => cy_it_lt hF hp i)
  have e : cy_it F i p = cy_it F j p := e
  have hk : cy_it F (j - i) p = p := by
    have h1 : cy_it F j p = cy_it F i (cy_it F (j - i) p) := by
      rw [← cy_it_add]
      congr 1
      omega
    rw [h1] at e
    exact (cy_cancel hF hI i _ _ hp (cy_it_lt hF hp _) e).symm
  obtain ⟨k, ⟨h1, h2⟩, h3⟩ := ex_min (fun k => 1 ≤ k ∧ cy_it F k p = p) (fun k => k) (j - i) (j - i) ⟨by omega, hk⟩ (Nat.le_refl _)
  have h4 := h3 (j - i) ⟨by omega, hk⟩
  have h4 : k ≤ j - i := h4
  refine ⟨k, by omega, h1, h2, fun a ha hak hz => ?_⟩
  have h5 := h3 a ⟨ha, hz⟩
  have h5 : k ≤ a := h5
  omega
/-- the least one of its party -/
def cy_least (F : Nat → Nat) (p k : Nat) : Prop := ∀ j, 1 ≤ j → j < k → p < cy_it F j p
theorem cy_least_ne {F : Nat → Nat} {p k : Nat} (h : cy_is F p k) {j : Nat} (h1 : 1 ≤ j) (h2 : j < k) : cy_it F j p < p ∨ p < cy_it F j p := by
  have := h.2.2 j h1 h2
  omega
/-- what is counted of the stable matchings -/
theorem rh_fold_one {n : Nat} : ∀ (l : List (List Nat)) (A : rh_A), (rh_fold n A l).1 = A.1 + l.length
  | [], A => rfl
  | m :: l, A => by
    show (rh_fold n (rh_acc n A fun p => m.getD p 0) l).1 = _
    rw [rh_fold_one l]
    show A.1 + 1 + l.length = _
    rw [List.length_cons]
    omega
theorem rh_fold_two {n p : Nat} (hp : p < n) : ∀ (l : List (List Nat)) (A : rh_A) (q : Nat), 0 < (rh_fold n A l).2.1 p q ↔ 0 < A.2.1 p q ∨ ∃ m, m ∈ l ∧ m.getD p 0 = q
  | [], A, q => by
    show 0 < A.2.1 p q ↔ _
    constructor
    · exact Or.inl
    · rintro (h | ⟨m, h, -⟩)
      · exact h
      · cases h
  | m :: l, A, q => by
    show 0 < (rh_fold n (rh_acc n A fun p => m.getD p 0) l).2.1 p q ↔ _
    rw [rh_fold_two hp l]
    have e : (rh_acc n A fun p => m.getD p 0).2.1 p q = if p < n ∧ m.getD p 0 = q then A.2.1 p q + 1 else A.2.1 p q := rfl
    rw [e]
    constructor
    · rintro (h | ⟨m', h1, h2⟩)
      · by_cases hc : p < n ∧ m.getD p 0 = q
        · exact Or.inr ⟨m, List.mem_cons_self, hc.2⟩
        · rw [if_neg hc] at h
          exact Or.inl h
      · exact Or.inr ⟨m', List.mem_cons_of_mem _ h1, h2⟩
    · rintro (h | ⟨m', h1, h2⟩)
      · left
        by_cases hc : p < n ∧ m.getD p 0 = q
        · rw [if_pos hc]; omega
        · rw [if_neg hc]; exact h
      · rcases List.mem_cons.mp h1 with e1 | e1
        · left
          subst e1
          rw [if_pos ⟨hp, h2⟩]
          omega
        · exact Or.inr ⟨m', e1, h2⟩
/-- an entry is moved within a list; one is taken out -/
def mv_at (i j k : Nat) : Nat := if k = j then i else if i ≤ k ∧ k < j then k + 1 else if j < k ∧ k ≤ i then k - 1 else k
theorem mv_at_lt {i j k n : Nat} (hi : i < n) (hj : j < n) (hk : k < n) : mv_at i j k < n := by
  unfold mv_at
  split
  · exact hi
  · split
    · omega
    · split <;> omega
theorem mv_at_inj {i j k k' : Nat} (h : mv_at i j k = mv_at i j k') : k = k' := by
  unfold mv_at at h
  (repeat' split at h) <;> omega
def mv_list (l : List Nat) (i j : Nat) : List Nat := (List.range l.length).map fun k => l.getD (mv_at i j k) 0
def rm_list (l : List Nat) (i : Nat) : List Nat := (List.range (l.length - 1)).map fun k => l.getD (mv_at i (l.length - 1) k) 0
theorem mv_len (l : List Nat) (i j : Nat) : (mv_list l i j).length = l.length := by simp [mv_list]
theorem rm_len (l : List Nat) (i : Nat) : (rm_list l i).length = l.length - 1 := by simp [rm_list]
theorem rl_get {n : Nat} {f : Nat → Nat} {k : Nat} (h : k < n) : ((List.range n).map f).getD k 0 = f k := by
  rw [List.getD_eq_getElem?_getD, List.getElem?_map, List.getElem?_range h]
  rfl
theorem mv_get {l : List Nat} {i j k : Nat} (h : k < l.length) : (mv_list l i j).getD k 0 = l.getD (mv_at i j k) 0 := rl_get h
theorem rm_get {l : List Nat} {i k : Nat} (h : k < l.length - 1) : (rm_list l i).getD k 0 = l.getD (mv_at i (l.length - 1) k) 0 := rl_get h
/-- no two alike: by places -/
theorem nd_iff (l : List Nat) : l.Nodup ↔ ∀ i j, i < l.length → j < l.length → l.getD i 0 = l.getD j 0 → i = j := by
  constructor
  · intro h i j hi hj e
    rw [List.getD_eq_getElem?_getD, List.getD_eq_getElem?_getD, List.getElem?_eq_getElem hi, List.getElem?_eq_getElem hj, Option.getD_some, Option.getD_some] at e
    rcases Nat.lt_trichotomy i j with z | z | z
    · exact absurd e (List.pairwise_iff_getElem.mp h i j hi hj z)
    · exact z
    · exact absurd e.symm (List.pairwise_iff_getElem.mp h j i hj hi z)
  · intro h
    apply List.pairwise_iff_getElem.mpr
    intro i j hi hj hij e
    have := h i j hi hj (by
      rw [List.getD_eq_getElem?_getD, List.getD_eq_getElem?_getD, List.getElem?_eq_getElem hi, List.getElem?_eq_getElem hj, Option.getD_some, Option.getD_some]
      exact e)
    omega
theorem mem_get (l : List Nat) (q : Nat) : q ∈ l ↔ ∃ i, i < l.length ∧ l.getD i 0 = q := by
  rw [List.mem_iff_getElem]
  constructor
  · rintro ⟨i, hi, e⟩
    exact ⟨i, hi, by rw [List.getD_eq_getElem?_getD, List.getElem?_eq_getElem hi]; exact e⟩
  · rintro ⟨i, hi, e⟩
    refine ⟨i, hi, ?_⟩
    rw [List.getD_eq_getElem?_getD, List.getElem?_eq_getElem hi] at e
    exact e
theorem mv_nd {l : List Nat} {i j : Nat} (h : l.Nodup) (hi : i < l.length) (hj : j < l.length) : (mv_list l i j).Nodup := by
  rw [nd_iff] at h ⊢
  rw [mv_len]
  intro a c ha hc e
  rw [mv_get ha, mv_get hc] at e
  exact mv_at_inj (h _ _ (mv_at_lt hi hj ha) (mv_at_lt hi hj hc) e)
theorem mv_mem {l : List Nat} {i j : Nat} (hi : i < l.length) (hj : j < l.length) (q : Nat) : q ∈ mv_list l i j ↔ q ∈ l := by
  rw [mem_get, mem_get, mv_len]
  constructor
  · rintro ⟨a, ha, e⟩
    rw [mv_get ha] at e
    exact ⟨_, mv_at_lt hi hj ha, e⟩
  · rintro ⟨a, ha, e⟩
    obtain ⟨c, hc, e2⟩ := ex_surj l.length (mv_at i j) (fun _ h => mv_at_lt hi hj h) (fun _ _ _ _ h => mv_at_inj h) a ha
    exact ⟨c, hc, by rw [mv_get hc, e2]; exact e⟩
theorem rm_nd {l : List Nat} {i : Nat} (h : l.Nodup) (hi : i < l.length) : (rm_list l i).Nodup := by
  rw [nd_iff] at h ⊢
  rw [rm_len]
  intro a c ha hc e
  rw [rm_get ha, rm_get hc] at e
  exact mv_at_inj (h _ _ (mv_at_lt hi (by omega) (by omega)) (mv_at_lt hi (by omega) (by omega)) e)
theorem rm_mem {l : List Nat} {i : Nat} (h : l.Nodup) (hi : i < l.length) (q : Nat) : q ∈ rm_list l i ↔ q ∈ l ∧ q ≠ l.getD i 0 := by
  rw [nd_iff] at h
  rw [mem_get, mem_get, rm_len]
  have last : mv_at i (l.length - 1) (l.length - 1) = i := if_pos rfl
  constructor
  · rintro ⟨a, ha, e⟩
    rw [rm_get ha] at e
    refine ⟨⟨_, mv_at_lt hi (by omega) (by omega), e⟩, fun z => ?_⟩
    rw [← e] at z
    have := h _ _ (mv_at_lt hi (show l.length - 1 < l.length by omega) (show a < l.length by omega)) hi z
    have h2 := mv_at_inj (this.trans last.symm)
    omega
  · rintro ⟨⟨a, ha, e⟩, hne⟩
    obtain ⟨c, hc, e2⟩ := ex_surj l.length (mv_at i (l.length - 1)) (fun _ h => mv_at_lt hi (by omega) h) (fun _ _ _ _ h => mv_at_inj h) a ha
    have hcl : c ≠ l.length - 1 := fun z => by
      rw [z, last] at e2
      rw [← e2] at e
      exact hne e.symm
    exact ⟨c, by omega, by rw [rm_get (by omega), e2]; exact e⟩
end
section
/-! A small machine of its own over numbered cells: what a method's frame is at an instruction (pm_Y), said once over the kit's W; behind it a row an instruction, with no heap, no address and no table in it. -/
abbrev pV : Type := Int32 ⊕ (Int64 ⊕ (Nat ⊕ Bool))
abbrev pm_I (x : Int32) : pV := Sum.inl x
abbrev pm_L (x : Int64) : pV := Sum.inr (Sum.inl x)
abbrev pm_R (i : Nat) : pV := Sum.inr (Sum.inr (Sum.inl i))
abbrev pm_S : pV := Sum.inr (Sum.inr (Sum.inr true))
abbrev pm_J : pV := Sum.inr (Sum.inr (Sum.inr false))
/-- how many cells; of what kind each is (0: an object of a kind; 1: ints; 2: arrays of ints; 3: longs) and its kind or length; its references -/
abbrev pG : Type := Nat × (Nat → Nat × Nat) × (Nat → Nat → Option Nat)
abbrev pI : Type := Nat → Nat → Int32
abbrev pJ : Type := Nat → Nat → Int64
/-- the launch, the first state and its arguments, the tables' numbers, the array classes, the script's address, length and ints -/
abbrev pB : Type := Launch × State × Array Value × va_G × (ClassId × ClassId × ClassId) × Nat × Nat × (Nat → Int32)
/-- how a method ends: it returns (does it write? what then holds), it throws an object of a kind, it makes cells -/
abbrev pE : Type := (Bool × (Option Int32 → pI → pJ → Prop)) ⊕ (String ⊕ (pG → pI → pJ → Prop))
def pm_v (ad : Nat → Nat) (sc jk : Nat) : pV → Value
  | .inl x => .int x
  | .inr (.inl x) => .long x
  | .inr (.inr (.inl i)) => .ref (ad i)
  | .inr (.inr (.inr true)) => .ref sc
  | .inr (.inr (.inr false)) => .ref jk
def pm_one : pV → Bool
  | .inr (.inl _) => false
  | _ => true
def pm_wt : pV → Nat
  | .inr (.inl _) => 2
  | _ => 1
theorem pm_v_cat {ad : Nat → Nat} {sc jk : Nat} (v : pV) : (pm_v ad sc jk v).category = pm_wt v := by
  rcases v with x | x | x | x
  · rfl
  · rfl
  · rfl
  · cases x <;> rfl
theorem pm_v_one {ad : Nat → Nat} {sc jk : Nat} {v : pV} (h : pm_one v = true) : (pm_v ad sc jk v).category = 1 := by
  rcases v with x | x | x | x
  · rfl
  · cases h
  · rfl
  · cases x <;> rfl
theorem pm_v_sum {ad : Nat → Nat} {sc jk : Nat} (st : List pV) : ((st.map (pm_v ad sc jk)).map fun v => v.category).sum = (st.map pm_wt).sum := by
  induction st with
  | nil => rfl
  | cons v t ih => simp only [List.map_cons, List.sum_cons, ih, pm_v_cat]
/-- the cell i as the kit's worlds have it -/
def pm_ct (b : pB) (ad : Nat → Nat) (g : pG) (σ : pI) (τ : pJ) (i : Nat) : va_E := match g.2.1 i with
  | (0, c) => .inr (c, (List.range (pm_nf c)).map fun j => if pm_rf c j = true then va_rf ((g.2.2 i j).map ad) else .int (σ i j))
  | (1, n) => .inl (b.2.2.2.2.1.1, n, .inl (σ i))
  | (2, n) => .inl (b.2.2.2.2.1.2.1, n, .inr (.inr (.inr (.inr fun j => (g.2.2 i j).map ad))))
  | (_, n) => .inl (b.2.2.2.2.1.2.2, n, .inr (.inl (τ i)))
def pm_ws (b : pB) (ad : Nat → Nat) (g : pG) (σ : pI) (τ : pJ) : va_W := (List.range g.1).map fun i => (ad i, pm_ct b ad g σ τ i)
abbrev pm_A (b : pB) : Nat → Prop := fun q => b.2.1.heap.size ≤ q
def pm_D (b : pB) (ad : Nat → Nat) (n : Nat) : Prop := (∀ i j, i < n → j < n → ad i = ad j → i = j) ∧ ∀ i, i < n → pm_A b (ad i)
abbrev pm_tys (b : pB) : List (ClassId × FieldType) := [(b.2.2.2.2.1.1, .int), (b.2.2.2.2.1.2.1, .array .int), (b.2.2.2.2.1.2.2, .long)]
abbrev pm_P (b : pB) (ad : Nat → Nat) (g : pG) (σ : pI) (τ : pJ) (H : Heap) : Prop := va_P b.2.2.2.1 pm_cl (pm_ws b ad g σ τ) H
theorem pm_ws_get {b : pB} {ad : Nat → Nat} {g : pG} {σ : pI} {τ : pJ} {i : Nat} (hi : i < g.1) : (pm_ws b ad g σ τ)[i]? = some (ad i, pm_ct b ad g σ τ i) := by
  unfold pm_ws
  rw [List.getElem?_map, List.getElem?_range hi]
  rfl
theorem pm_ws_none {b : pB} {ad : Nat → Nat} {g : pG} {σ : pI} {τ : pJ} {i : Nat} (hi : ¬ i < g.1) : (pm_ws b ad g σ τ)[i]? = none := by
  unfold pm_ws
  rw [List.getElem?_eq_none]
  rw [List.length_map, List.length_range]
  omega
theorem pm_ws_some {b : pB} {ad : Nat → Nat} {g : pG} {σ : pI} {τ : pJ} {i : Nat} {q : Nat × va_E} (h : (pm_ws b ad g σ τ)[i]? = some q) : i < g.1 ∧ q = (ad i, pm_ct b ad g σ τ i) := by
  by_cases hi : i < g.1
  · rw [pm_ws_get hi] at h
    exact ⟨hi, (Option.some.inj h).symm⟩
  · rw [pm_ws_none hi] at h
    cases h
theorem pm_D.to {b : pB} {ad : Nat → Nat} {g : pG} {σ : pI} {τ : pJ} (h : pm_D b ad g.1) : va_D (pm_A b) (pm_ws b ad g σ τ) := by
  refine ⟨fun i j p q hp hq e => ?_, fun k q hq => ?_⟩
  · obtain ⟨h1, rfl⟩ := pm_ws_some hp
    obtain ⟨h2, rfl⟩ := pm_ws_some hq
    exact h.1 i j h1 h2 e
  · obtain ⟨h1, rfl⟩ := pm_ws_some hq
    exact h.2 k h1
theorem pm_ws_set {b : pB} {ad : Nat → Nat} {g g' : pG} {σ σ' : pI} {τ τ' : pJ} {i : Nat} (hg : g'.1 = g.1) (h : ∀ j, j ≠ i → pm_ct b ad g' σ' τ' j = pm_ct b ad g σ τ j) {x : Nat × va_E} (hx : x = (ad i, pm_ct b ad g' σ' τ' i)) :
    (pm_ws b ad g σ τ).set i x = pm_ws b ad g' σ' τ' := by
  subst hx
  apply List.ext_getElem?
  intro j
  rw [List.getElem?_set]
  by_cases e : i = j
  · subst e
    rw [if_pos rfl]
    by_cases hi : i < g.1
    · rw [pm_ws_get (g := g') (by rw [hg]; exact hi), if_pos (by unfold pm_ws; rw [List.length_map, List.length_range]; exact hi)]
    · rw [pm_ws_none (g := g') (by rw [hg]; exact hi), if_neg (by unfold pm_ws; rw [List.length_map, List.length_range]; exact hi)]
  · rw [if_neg e]
    by_cases hi : j < g.1
    · rw [pm_ws_get hi, pm_ws_get (g := g') (by rw [hg]; exact hi), h j (fun z => e z.symm)]
    · rw [pm_ws_none hi, pm_ws_none (g := g') (by rw [hg]; exact hi)]
/-- ints: cell i, place j -/
def pm_up (σ : pI) (i j : Nat) (x : Int32) : pI := fun a c => if a = i ∧ c = j then x else σ a c
def pm_upL (τ : pJ) (i j : Nat) (x : Int64) : pJ := fun a c => if a = i ∧ c = j then x else τ a c
theorem pm_up_at {σ : pI} {i j : Nat} {x : Int32} : pm_up σ i j x i j = x := if_pos ⟨rfl, rfl⟩
theorem pm_up_ne {σ : pI} {i j a c : Nat} {x : Int32} (h : ¬ (a = i ∧ c = j)) : pm_up σ i j x a c = σ a c := if_neg h
theorem pm_up_row {σ : pI} {i j a : Nat} {x : Int32} (h : a ≠ i) : pm_up σ i j x a = σ a := by
  funext c
  exact if_neg fun z => h z.1
theorem pm_up_upd {σ : pI} {i j : Nat} {x : Int32} : pm_up σ i j x i = upd (σ i) j x := by
  funext c
  unfold pm_up upd
  by_cases h : c = j
  · rw [if_pos ⟨rfl, h⟩, if_pos h]
  · rw [if_neg (fun z => h z.2), if_neg h]
theorem pm_upL_row {τ : pJ} {i j a : Nat} {x : Int64} (h : a ≠ i) : pm_upL τ i j x a = τ a := by
  funext c
  exact if_neg fun z => h z.1
theorem pm_upL_upd {τ : pJ} {i j : Nat} {x : Int64} : pm_upL τ i j x i = vp_updL (τ i) j x := by
  funext c
  unfold pm_upL vp_updL
  by_cases h : c = j
  · rw [if_pos ⟨rfl, h⟩, if_pos h]
  · rw [if_neg (fun z => h z.2), if_neg h]
theorem pm_ct_row {b : pB} {ad : Nat → Nat} {g : pG} {σ σ' : pI} {τ τ' : pJ} {i : Nat} (h1 : σ' i = σ i) (h2 : τ' i = τ i) : pm_ct b ad g σ' τ' i = pm_ct b ad g σ τ i := by
  unfold pm_ct
  rw [h1, h2]
/-- the locals -/
def pm_lo (b : pB) (ad : Nat → Nat) (jk n : Nat) (lo : List (Option pV)) (ls : Array Slot) : Prop :=
  ls.size = n ∧ lv_wf ls ∧ ∀ (i : Nat) (v : pV), lo[i]? = some (some v) → ls[i]? = some (.val (pm_v ad b.2.2.2.2.2.1 jk v)) ∧ pm_one v = true
def pm_ll (F : pV → Value) : Nat → List (Option pV) → List (Nat × Value)
  | _, [] => []
  | i, none :: t => pm_ll F (i + 1) t
  | i, some v :: t => (i, F v) :: pm_ll F (i + 1) t
theorem pm_ll_mem {F : pV → Value} : ∀ (lo : List (Option pV)) (i : Nat) (q : Nat × Value), q ∈ pm_ll F i lo ↔ ∃ (j : Nat) (v : pV), lo[j]? = some (some v) ∧ q = (i + j, F v)
  | [], i, q => by
    constructor
    · intro h; cases h
    · rintro ⟨j, v, h, -⟩
      simp at h
  | none :: t, i, q => by
    show q ∈ pm_ll F (i + 1) t ↔ _
    rw [pm_ll_mem t (i + 1) q]
    constructor
    · rintro ⟨j, v, h, rfl⟩
      exact ⟨j + 1, v, by simpa using h, by rw [show i + 1 + j = i + (j + 1) by omega]⟩
    · rintro ⟨j, v, h, rfl⟩
      cases j with
      | zero => simp at h
      | succ j => exact ⟨j, v, by simpa using h, by rw [show i + 1 + j = i + (j + 1) by omega]⟩
  | some w :: t, i, q => by
    show q ∈ (i, F w) :: pm_ll F (i + 1) t ↔ _
    rw [List.mem_cons, pm_ll_mem t (i + 1) q]
    constructor
    · rintro (rfl | ⟨j, v, h, rfl⟩)
      · exact ⟨0, w, rfl, rfl⟩
      · exact ⟨j + 1, v, by simpa using h, by rw [show i + 1 + j = i + (j + 1) by omega]⟩
    · rintro ⟨j, v, h, rfl⟩
      cases j with
      | zero =>
        have : w = v := by simpa using h
        subst this
        exact Or.inl rfl
      | succ j => exact Or.inr ⟨j, v, by simpa using h, by rw [show i + 1 + j = i + (j + 1) by omega]⟩
section PMLO
variable {b : pB} {ad : Nat → Nat} {jk n : Nat} {lo : List (Option pV)} {ls : Array Slot}
theorem pm_lo.at (h : pm_lo b ad jk n lo ls) {i : Nat} {v : pV} (hi : lo[i]? = some (some v)) : ls[i]? = some (.val (pm_v ad b.2.2.2.2.2.1 jk v)) := (h.2.2 i v hi).1
theorem pm_lo.has (h : pm_lo b ad jk n lo ls) : lv_has ls n (pm_ll (pm_v ad b.2.2.2.2.2.1 jk) 0 lo) := by
  refine ⟨h.1, h.2.1, fun q hq => ?_⟩
  obtain ⟨j, v, h1, rfl⟩ := (pm_ll_mem lo 0 q).mp hq
  rw [Nat.zero_add]
  exact (h.2.2 j v h1).1
theorem pm_lo.set (h : pm_lo b ad jk n lo ls) {i : Nat} {v : pV} (hv : pm_one v = true) {ls' : Array Slot}
    (h' : lv_has ls' n ((i, pm_v ad b.2.2.2.2.2.1 jk v) :: (pm_ll (pm_v ad b.2.2.2.2.2.1 jk) 0 lo).filter (fun q => !(q.1 == i) && !(q.1 + 1 == i && q.2.category == 2)))) : pm_lo b ad jk n (lo.set i (some v)) ls' := by
  refine ⟨h'.1, h'.2.1, fun j w hj => ?_⟩
  rw [List.getElem?_set] at hj
  by_cases e : i = j
  · subst e
    rw [if_pos rfl] at hj
    by_cases hl : i < lo.length
    · rw [if_pos hl] at hj
      have : v = w := Option.some.inj (Option.some.inj hj)
      subst this
      exact ⟨h'.2.2 _ List.mem_cons_self, hv⟩
    · rw [if_neg hl] at hj
      cases hj
  · rw [if_neg e] at hj
    obtain ⟨h1, h2⟩ := h.2.2 j w hj
    refine ⟨h'.2.2 (j, pm_v ad b.2.2.2.2.2.1 jk w) (List.mem_cons_of_mem _ (List.mem_filter.mpr ⟨(pm_ll_mem lo 0 _).mpr ⟨j, w, hj, by rw [Nat.zero_add]⟩, ?_⟩)), h2⟩
    have e1 : (j == i) = false := by simpa using fun z : j = i => e z.symm
    have e2 : ((pm_v ad b.2.2.2.2.2.1 jk w).category == 2) = false := by rw [pm_v_one h2]; rfl
    show (!(j == i) && !(j + 1 == i && (pm_v ad b.2.2.2.2.2.1 jk w).category == 2)) = true
    rw [e1, e2, Bool.and_false]
    rfl
theorem pm_lo.len (h : pm_lo b ad jk n lo ls) : ls.size = n := h.1
end PMLO
end
section
/-! what holds at a frame of the method k, what holds of the heap, how it ends; the judgement pm_Y -/
def pm_fr (b : pB) (k : pK) (p : Program) (e : Env) (s : State) (m : MethodId) (args : Array Value) (meth : Method) (c : Code) : Prop :=
  p.tables.exec = Jvm.exec ∧ c.code = k.2.1 ∧ c.maxLocals = k.2.2.1 ∧ s.vm.findClass k.1.cls = some m.cls ∧ meth.sig.returnType = k.2.2.2.1 ∧ meth.locks = false ∧ meth.name = k.1.name ∧
  c.exceptionTable.toList.map (fun h => (h.startPc, h.endPc, h.handlerPc, h.catchType)) = k.2.2.2.2 ∧ (∀ w ∈ pm_words, w.before args s = true) ∧ va_K b.2.2.2.1 pm_cl (pm_tys b) s ∧
  b.2.1.WarmedH s.vm ∧ va_S (pm_A b) b.2.1.heap s.heap [] ∧ b.1.admits e
def pm_room (d mc ms : Nat) (R : Room) : Prop := d + 7 ≤ R.frames ∧ 64 * d + 120 ≤ R.locals ∧ mc ≤ R.cells ∧ ms ≤ R.slots
def pm_rm (d mc ms : Nat) : Room := { frames := d + 7, cells := mc, slots := ms, locals := 64 * d + 120 }
theorem pm_rm_ok (d mc ms : Nat) : pm_room d mc ms (pm_rm d mc ms) := ⟨Nat.le_refl _, Nat.le_refl _, Nat.le_refl _, Nat.le_refl _⟩
def pm_inv (b : pB) (ad : Nat → Nat) (f : Bool) (g : pG) (σ : pI) (τ : pJ) (H : Heap) (locs : List Loc) : Prop :=
  pm_P b ad g σ τ H ∧ pm_D b ad g.1 ∧ va_S (pm_A b) b.2.1.heap H locs ∧ (f = false → locs = [])
def pm_Qr (b : pB) (k : pK) (ad : Nat → Nat) (g : pG) (Q : Option Int32 → pI → pJ → Prop) : Array Value → State → Outcome → State → Prop := fun _ _ o t =>
  ∃ (v : Option Int32) (σ : pI) (τ : pJ), o = .returned (v.map Value.int) ∧ v.isSome = k.2.2.2.1.isSome ∧ Q v σ τ ∧ pm_P b ad g σ τ t.heap ∧ va_S (pm_A b) b.2.1.heap t.heap []
def pm_Qn (b : pB) (ad : Nat → Nat) (g : pG) (Q : pG → pI → pJ → Prop) : Array Value → State → Outcome → State → Prop := fun _ _ o t =>
  ∃ (ad' : Nat → Nat) (g' : pG) (σ : pI) (τ : pJ), o = .returned none ∧ Q g' σ τ ∧ g.1 ≤ g'.1 ∧ (∀ i, i < g.1 → ad' i = ad i) ∧ pm_P b ad' g' σ τ t.heap ∧ pm_D b ad' g'.1 ∧ va_S (pm_A b) b.2.1.heap t.heap []
/-- the object that is thrown -/
def pm_xc (X : String) (s : State) (a : Nat) (H : Heap) : Prop := s.heap.size ≤ a ∧ ∃ ce : Cell, H[a]? = some ce ∧ ce.vm.isStatics = false ∧ s.vm.findClass X = some ce.cls
def pm_Qt (X : String) (mc ms : Nat) : Array Value → State → Outcome → State → Prop := fun _ s o t =>
  ∃ a : Nat, o = .threw a ∧ s.WarmedH t.vm ∧ s.sameButNew ({ t with vm := s.vm } : State) [] mc ms ∧ pm_xc X s a t.heap
def pm_end (b : pB) (k : pK) (E : pE) (ad : Nat → Nat) (g : pG) (below : List Frame) (args : Array Value) (s : State) (mc ms : Nat) : State → Prop := match E with
  | .inl (wr, Q) => MQ below (pm_Qr b k ad g Q) args s mc ms (fun q => wr = true ∧ pm_A b q)
  | .inr (.inl X) => fun t => ∃ o : Outcome, t.status = .running ∧ Ended t below o ∧ pm_Qt X mc ms args s o t
  | .inr (.inr Q) => MQ below (pm_Qn b ad g Q) args s mc ms (pm_A b)
def pm_Y (b : pB) (d : Nat) (k : pK) (pc : Nat) (f : Bool) (lo : List (Option pV)) (st : List pV) (g : pG) (σ : pI) (τ : pJ) (cu su mc ms : Nat) (E : pE) : Prop :=
  ∀ (p : Program) (e : Env) (R : Room) (s : State) (m : MethodId) (args : Array Value) (below : List Frame) (meth : Method) (c : Code) (H : Heap) (locs : List Loc) (ls : Array Slot) (ad : Nat → Nat) (jk : Nat),
    pm_fr b k p e s m args meth c → pm_room d mc ms R → pm_inv b ad f g σ τ H locs → pm_lo b ad jk k.2.2.1 lo ls →
    W p b.1 e R s m args below meth c H locs cu su (pm_end b k E ad g below args s mc ms) (F0 m pc ls (st.map (pm_v ad b.2.2.2.2.2.1 jk)))
/-- a method's contract: from its entry, with these arguments -/
def pm_C (b : pB) (d : Nat) (k : pK) (vs : List pV) (g : pG) (σ : pI) (τ : pJ) (mc ms : Nat) (E : pE) : Prop :=
  pm_Y b d k 0 false (vs.map some ++ List.replicate (k.2.2.1 - vs.length) none) [] g σ τ 0 0 mc ms E
section PMR
variable {b : pB} {d : Nat} {k : pK} {pc : Nat} {f : Bool} {lo : List (Option pV)} {st : List pV} {g : pG} {σ : pI} {τ : pJ} {cu su mc ms : Nat} {E : pE}
theorem pm_iconst {z : Int} (hd : decode k.2.1 pc = .ok (.iconst z, 1)) (K : pm_Y b d k (pc + 1) f lo (pm_I (Int32.ofInt z) :: st) g σ τ cu su mc ms E) : pm_Y b d k pc f lo (st) g σ τ cu su mc ms E := by
  intro p e R s m args below meth c H locs ls ad jk hF hR hI hL
  exact lv_iconst hF.1 hF.2.1 hd rfl (K _ _ _ _ _ _ _ _ _ _ _ _ _ _ hF hR hI hL)
theorem pm_bipush {z : Int} (hd : decode k.2.1 pc = .ok (.bipush z, 2)) (K : pm_Y b d k (pc + 2) f lo (pm_I (Int8.ofInt z).toInt32 :: st) g σ τ cu su mc ms E) : pm_Y b d k pc f lo (st) g σ τ cu su mc ms E := by
  intro p e R s m args below meth c H locs ls ad jk hF hR hI hL
  exact lv_bipush hF.1 hF.2.1 hd rfl (K _ _ _ _ _ _ _ _ _ _ _ _ _ _ hF hR hI hL)
theorem pm_iload_n {j : Fin 4} {x : Int32} (hd : decode k.2.1 pc = .ok (.iload_n j, 1)) (hl : lo[j.val]? = some (some (pm_I x))) (K : pm_Y b d k (pc + 1) f lo (pm_I x :: st) g σ τ cu su mc ms E) : pm_Y b d k pc f lo (st) g σ τ cu su mc ms E := by
  intro p e R s m args below meth c H locs ls ad jk hF hR hI hL
  exact lv_iload_n hF.1 hF.2.1 hd rfl (hL.at hl) (K _ _ _ _ _ _ _ _ _ _ _ _ _ _ hF hR hI hL)
theorem pm_iload {j : Nat} {x : Int32} (hd : decode k.2.1 pc = .ok (.iload j, 2)) (hl : lo[j]? = some (some (pm_I x))) (K : pm_Y b d k (pc + 2) f lo (pm_I x :: st) g σ τ cu su mc ms E) : pm_Y b d k pc f lo (st) g σ τ cu su mc ms E := by
  intro p e R s m args below meth c H locs ls ad jk hF hR hI hL
  exact lv_iload hF.1 hF.2.1 hd (hL.at hl) (K _ _ _ _ _ _ _ _ _ _ _ _ _ _ hF hR hI hL)
theorem pm_aload_n {j : Fin 4} {x : Nat} (hd : decode k.2.1 pc = .ok (.aload_n j, 1)) (hl : lo[j.val]? = some (some (pm_R x))) (K : pm_Y b d k (pc + 1) f lo (pm_R x :: st) g σ τ cu su mc ms E) : pm_Y b d k pc f lo (st) g σ τ cu su mc ms E := by
  intro p e R s m args below meth c H locs ls ad jk hF hR hI hL
  exact lv_aload_n hF.1 hF.2.1 hd rfl (hL.at hl) (K _ _ _ _ _ _ _ _ _ _ _ _ _ _ hF hR hI hL)
theorem pm_aload {j : Nat} {x : Nat} (hd : decode k.2.1 pc = .ok (.aload j, 2)) (hl : lo[j]? = some (some (pm_R x))) (K : pm_Y b d k (pc + 2) f lo (pm_R x :: st) g σ τ cu su mc ms E) : pm_Y b d k pc f lo (st) g σ τ cu su mc ms E := by
  intro p e R s m args below meth c H locs ls ad jk hF hR hI hL
  exact lv_aload hF.1 hF.2.1 hd (hL.at hl) (K _ _ _ _ _ _ _ _ _ _ _ _ _ _ hF hR hI hL)
theorem pm_aload_s {j : Fin 4} (hd : decode k.2.1 pc = .ok (.aload_n j, 1)) (hl : lo[j.val]? = some (some pm_S)) (K : pm_Y b d k (pc + 1) f lo (pm_S :: st) g σ τ cu su mc ms E) : pm_Y b d k pc f lo (st) g σ τ cu su mc ms E := by
  intro p e R s m args below meth c H locs ls ad jk hF hR hI hL
  exact lv_aload_n hF.1 hF.2.1 hd rfl (hL.at hl) (K _ _ _ _ _ _ _ _ _ _ _ _ _ _ hF hR hI hL)
theorem pm_iadd {x y : Int32} (hd : decode k.2.1 pc = .ok (.iadd, 1)) (K : pm_Y b d k (pc + 1) f lo (pm_I (x + y) :: st) g σ τ cu su mc ms E) : pm_Y b d k pc f lo (pm_I y :: pm_I x :: st) g σ τ cu su mc ms E := by
  intro p e R s m args below meth c H locs ls ad jk hF hR hI hL
  exact lv_iadd hF.1 hF.2.1 hd (K _ _ _ _ _ _ _ _ _ _ _ _ _ _ hF hR hI hL)
theorem pm_isub {x y : Int32} (hd : decode k.2.1 pc = .ok (.isub, 1)) (K : pm_Y b d k (pc + 1) f lo (pm_I (x - y) :: st) g σ τ cu su mc ms E) : pm_Y b d k pc f lo (pm_I y :: pm_I x :: st) g σ τ cu su mc ms E := by
  intro p e R s m args below meth c H locs ls ad jk hF hR hI hL
  exact lv_isub hF.1 hF.2.1 hd (K _ _ _ _ _ _ _ _ _ _ _ _ _ _ hF hR hI hL)
theorem pm_imul {x y : Int32} (hd : decode k.2.1 pc = .ok (.imul, 1)) (K : pm_Y b d k (pc + 1) f lo (pm_I (x * y) :: st) g σ τ cu su mc ms E) : pm_Y b d k pc f lo (pm_I y :: pm_I x :: st) g σ τ cu su mc ms E := by
  intro p e R s m args below meth c H locs ls ad jk hF hR hI hL
  exact lv_imul hF.1 hF.2.1 hd (K _ _ _ _ _ _ _ _ _ _ _ _ _ _ hF hR hI hL)
theorem pm_iand {x y : Int32} (hd : decode k.2.1 pc = .ok (.iand, 1)) (K : pm_Y b d k (pc + 1) f lo (pm_I (x &&& y) :: st) g σ τ cu su mc ms E) : pm_Y b d k pc f lo (pm_I y :: pm_I x :: st) g σ τ cu su mc ms E := by
  intro p e R s m args below meth c H locs ls ad jk hF hR hI hL
  exact lv_iand hF.1 hF.2.1 hd (K _ _ _ _ _ _ _ _ _ _ _ _ _ _ hF hR hI hL)
theorem pm_irem {x y : Int32} (hd : decode k.2.1 pc = .ok (.irem, 1)) (hn : ¬ y = 0) (K : pm_Y b d k (pc + 1) f lo (pm_I (x - x / y * y) :: st) g σ τ cu su mc ms E) : pm_Y b d k pc f lo (pm_I y :: pm_I x :: st) g σ τ cu su mc ms E := by
  intro p e R s m args below meth c H locs ls ad jk hF hR hI hL
  exact lv_irem hF.1 hF.2.1 hd hn (K _ _ _ _ _ _ _ _ _ _ _ _ _ _ hF hR hI hL)
theorem pm_i2l {x : Int32} (hd : decode k.2.1 pc = .ok (.i2l, 1)) (K : pm_Y b d k (pc + 1) f lo (pm_L x.toInt64 :: st) g σ τ cu su mc ms E) : pm_Y b d k pc f lo (pm_I x :: st) g σ τ cu su mc ms E := by
  intro p e R s m args below meth c H locs ls ad jk hF hR hI hL
  exact lv_i2l hF.1 hF.2.1 hd rfl (K _ _ _ _ _ _ _ _ _ _ _ _ _ _ hF hR hI hL)
theorem pm_lcmp {x y : Int64} (hd : decode k.2.1 pc = .ok (.lcmp, 1)) (K : pm_Y b d k (pc + 1) f lo (pm_I (lg_cmp x y) :: st) g σ τ cu su mc ms E) : pm_Y b d k pc f lo (pm_L y :: pm_L x :: st) g σ τ cu su mc ms E := by
  intro p e R s m args below meth c H locs ls ad jk hF hR hI hL
  exact W.lcmp hF.1 hF.2.1 hd (K _ _ _ _ _ _ _ _ _ _ _ _ _ _ hF hR hI hL)
theorem pm_dup {v : pV} (hd : decode k.2.1 pc = .ok (.dup, 1)) (hv : pm_one v = true) (K : pm_Y b d k (pc + 1) f lo (v :: v :: st) g σ τ cu su mc ms E) : pm_Y b d k pc f lo (v :: st) g σ τ cu su mc ms E := by
  intro p e R s m args below meth c H locs ls ad jk hF hR hI hL
  exact lv_dup hF.1 hF.2.1 hd (pm_v_one hv) (K _ _ _ _ _ _ _ _ _ _ _ _ _ _ hF hR hI hL)
theorem pm_pop {v : pV} (hd : decode k.2.1 pc = .ok (.pop, 1)) (hv : pm_one v = true) (K : pm_Y b d k (pc + 1) f lo (st) g σ τ cu su mc ms E) : pm_Y b d k pc f lo (v :: st) g σ τ cu su mc ms E := by
  intro p e R s m args below meth c H locs ls ad jk hF hR hI hL
  exact lv_pop hF.1 hF.2.1 hd (pm_v_one hv) (K _ _ _ _ _ _ _ _ _ _ _ _ _ _ hF hR hI hL)
theorem pm_dup2 {v w : pV} (hd : decode k.2.1 pc = .ok (.dup2, 1)) (hv : pm_one v = true) (hw : pm_one w = true) (K : pm_Y b d k (pc + 1) f lo (v :: w :: v :: w :: st) g σ τ cu su mc ms E) : pm_Y b d k pc f lo (v :: w :: st) g σ τ cu su mc ms E := by
  intro p e R s m args below meth c H locs ls ad jk hF hR hI hL
  exact lv_dup2_11 hF.1 hF.2.1 hd (pm_v_one hv) (pm_v_one hw) (K _ _ _ _ _ _ _ _ _ _ _ _ _ _ hF hR hI hL)
theorem pm_dup_x1 {v w : pV} (hd : decode k.2.1 pc = .ok (.dup_x1, 1)) (hv : pm_one v = true) (hw : pm_one w = true) (K : pm_Y b d k (pc + 1) f lo (v :: w :: v :: st) g σ τ cu su mc ms E) : pm_Y b d k pc f lo (v :: w :: st) g σ τ cu su mc ms E := by
  intro p e R s m args below meth c H locs ls ad jk hF hR hI hL
  exact lv_dup_x1 hF.1 hF.2.1 hd (pm_v_one hv) (pm_v_one hw) (K _ _ _ _ _ _ _ _ _ _ _ _ _ _ hF hR hI hL)
theorem pm_if_eq {x : Int32} {off : Int} (tgt : Nat) (hd : decode k.2.1 pc = .ok (.ifCond .eq off, 3)) (ht : (pc : Int) + off = (tgt : Int)) (kt : x = 0 → pm_Y b d k tgt f lo st g σ τ cu su mc ms E) (kf : ¬ (x = 0) → pm_Y b d k (pc + 3) f lo st g σ τ cu su mc ms E) : pm_Y b d k pc f lo (pm_I x :: st) g σ τ cu su mc ms E := by
  intro p e R s m args below meth c H locs ls ad jk hF hR hI hL
  exact lv_if_eq hF.1 hF.2.1 hd ht (fun h => kt h _ _ _ _ _ _ _ _ _ _ _ _ _ _ hF hR hI hL) (fun h => kf h _ _ _ _ _ _ _ _ _ _ _ _ _ _ hF hR hI hL)
theorem pm_if_ne {x : Int32} {off : Int} (tgt : Nat) (hd : decode k.2.1 pc = .ok (.ifCond .ne off, 3)) (ht : (pc : Int) + off = (tgt : Int)) (kt : ¬ x = 0 → pm_Y b d k tgt f lo st g σ τ cu su mc ms E) (kf : x = 0 → pm_Y b d k (pc + 3) f lo st g σ τ cu su mc ms E) : pm_Y b d k pc f lo (pm_I x :: st) g σ τ cu su mc ms E := by
  intro p e R s m args below meth c H locs ls ad jk hF hR hI hL
  exact lv_if_ne hF.1 hF.2.1 hd ht (fun h => kt h _ _ _ _ _ _ _ _ _ _ _ _ _ _ hF hR hI hL) (fun h => kf h _ _ _ _ _ _ _ _ _ _ _ _ _ _ hF hR hI hL)
theorem pm_if_lt {x : Int32} {off : Int} (tgt : Nat) (hd : decode k.2.1 pc = .ok (.ifCond .lt off, 3)) (ht : (pc : Int) + off = (tgt : Int)) (kt : x < 0 → pm_Y b d k tgt f lo st g σ τ cu su mc ms E) (kf : ¬ (x < 0) → pm_Y b d k (pc + 3) f lo st g σ τ cu su mc ms E) : pm_Y b d k pc f lo (pm_I x :: st) g σ τ cu su mc ms E := by
  intro p e R s m args below meth c H locs ls ad jk hF hR hI hL
  exact lv_if_lt hF.1 hF.2.1 hd ht (fun h => kt h _ _ _ _ _ _ _ _ _ _ _ _ _ _ hF hR hI hL) (fun h => kf h _ _ _ _ _ _ _ _ _ _ _ _ _ _ hF hR hI hL)
theorem pm_if_ge {x : Int32} {off : Int} (tgt : Nat) (hd : decode k.2.1 pc = .ok (.ifCond .ge off, 3)) (ht : (pc : Int) + off = (tgt : Int)) (kt : 0 ≤ x → pm_Y b d k tgt f lo st g σ τ cu su mc ms E) (kf : ¬ (0 ≤ x) → pm_Y b d k (pc + 3) f lo st g σ τ cu su mc ms E) : pm_Y b d k pc f lo (pm_I x :: st) g σ τ cu su mc ms E := by
  intro p e R s m args below meth c H locs ls ad jk hF hR hI hL
  exact lv_if_ge hF.1 hF.2.1 hd ht (fun h => kt h _ _ _ _ _ _ _ _ _ _ _ _ _ _ hF hR hI hL) (fun h => kf h _ _ _ _ _ _ _ _ _ _ _ _ _ _ hF hR hI hL)
theorem pm_if_gt {x : Int32} {off : Int} (tgt : Nat) (hd : decode k.2.1 pc = .ok (.ifCond .gt off, 3)) (ht : (pc : Int) + off = (tgt : Int)) (kt : 0 < x → pm_Y b d k tgt f lo st g σ τ cu su mc ms E) (kf : ¬ (0 < x) → pm_Y b d k (pc + 3) f lo st g σ τ cu su mc ms E) : pm_Y b d k pc f lo (pm_I x :: st) g σ τ cu su mc ms E := by
  intro p e R s m args below meth c H locs ls ad jk hF hR hI hL
  exact lv_if_gt hF.1 hF.2.1 hd ht (fun h => kt h _ _ _ _ _ _ _ _ _ _ _ _ _ _ hF hR hI hL) (fun h => kf h _ _ _ _ _ _ _ _ _ _ _ _ _ _ hF hR hI hL)
theorem pm_if_le {x : Int32} {off : Int} (tgt : Nat) (hd : decode k.2.1 pc = .ok (.ifCond .le off, 3)) (ht : (pc : Int) + off = (tgt : Int)) (kt : x ≤ 0 → pm_Y b d k tgt f lo st g σ τ cu su mc ms E) (kf : ¬ (x ≤ 0) → pm_Y b d k (pc + 3) f lo st g σ τ cu su mc ms E) : pm_Y b d k pc f lo (pm_I x :: st) g σ τ cu su mc ms E := by
  intro p e R s m args below meth c H locs ls ad jk hF hR hI hL
  exact lv_if_le hF.1 hF.2.1 hd ht (fun h => kt h _ _ _ _ _ _ _ _ _ _ _ _ _ _ hF hR hI hL) (fun h => kf h _ _ _ _ _ _ _ _ _ _ _ _ _ _ hF hR hI hL)
theorem pm_icmp_eq {x y : Int32} {off : Int} (tgt : Nat) (hd : decode k.2.1 pc = .ok (.if_icmp .eq off, 3)) (ht : (pc : Int) + off = (tgt : Int)) (kt : x = y → pm_Y b d k tgt f lo st g σ τ cu su mc ms E) (kf : ¬ (x = y) → pm_Y b d k (pc + 3) f lo st g σ τ cu su mc ms E) : pm_Y b d k pc f lo (pm_I y :: pm_I x :: st) g σ τ cu su mc ms E := by
  intro p e R s m args below meth c H locs ls ad jk hF hR hI hL
  exact lv_icmp_eq hF.1 hF.2.1 hd ht (fun h => kt h _ _ _ _ _ _ _ _ _ _ _ _ _ _ hF hR hI hL) (fun h => kf h _ _ _ _ _ _ _ _ _ _ _ _ _ _ hF hR hI hL)
theorem pm_icmp_ne {x y : Int32} {off : Int} (tgt : Nat) (hd : decode k.2.1 pc = .ok (.if_icmp .ne off, 3)) (ht : (pc : Int) + off = (tgt : Int)) (kt : ¬ x = y → pm_Y b d k tgt f lo st g σ τ cu su mc ms E) (kf : x = y → pm_Y b d k (pc + 3) f lo st g σ τ cu su mc ms E) : pm_Y b d k pc f lo (pm_I y :: pm_I x :: st) g σ τ cu su mc ms E := by
  intro p e R s m args below meth c H locs ls ad jk hF hR hI hL
  exact lv_icmp_ne hF.1 hF.2.1 hd ht (fun h => kt h _ _ _ _ _ _ _ _ _ _ _ _ _ _ hF hR hI hL) (fun h => kf h _ _ _ _ _ _ _ _ _ _ _ _ _ _ hF hR hI hL)
theorem pm_icmp_lt {x y : Int32} {off : Int} (tgt : Nat) (hd : decode k.2.1 pc = .ok (.if_icmp .lt off, 3)) (ht : (pc : Int) + off = (tgt : Int)) (kt : x < y → pm_Y b d k tgt f lo st g σ τ cu su mc ms E) (kf : ¬ (x < y) → pm_Y b d k (pc + 3) f lo st g σ τ cu su mc ms E) : pm_Y b d k pc f lo (pm_I y :: pm_I x :: st) g σ τ cu su mc ms E := by
  intro p e R s m args below meth c H locs ls ad jk hF hR hI hL
  exact lv_icmp_lt hF.1 hF.2.1 hd ht (fun h => kt h _ _ _ _ _ _ _ _ _ _ _ _ _ _ hF hR hI hL) (fun h => kf h _ _ _ _ _ _ _ _ _ _ _ _ _ _ hF hR hI hL)
theorem pm_icmp_ge {x y : Int32} {off : Int} (tgt : Nat) (hd : decode k.2.1 pc = .ok (.if_icmp .ge off, 3)) (ht : (pc : Int) + off = (tgt : Int)) (kt : y ≤ x → pm_Y b d k tgt f lo st g σ τ cu su mc ms E) (kf : ¬ (y ≤ x) → pm_Y b d k (pc + 3) f lo st g σ τ cu su mc ms E) : pm_Y b d k pc f lo (pm_I y :: pm_I x :: st) g σ τ cu su mc ms E := by
  intro p e R s m args below meth c H locs ls ad jk hF hR hI hL
  exact lv_icmp_ge hF.1 hF.2.1 hd ht (fun h => kt h _ _ _ _ _ _ _ _ _ _ _ _ _ _ hF hR hI hL) (fun h => kf h _ _ _ _ _ _ _ _ _ _ _ _ _ _ hF hR hI hL)
theorem pm_icmp_gt {x y : Int32} {off : Int} (tgt : Nat) (hd : decode k.2.1 pc = .ok (.if_icmp .gt off, 3)) (ht : (pc : Int) + off = (tgt : Int)) (kt : y < x → pm_Y b d k tgt f lo st g σ τ cu su mc ms E) (kf : ¬ (y < x) → pm_Y b d k (pc + 3) f lo st g σ τ cu su mc ms E) : pm_Y b d k pc f lo (pm_I y :: pm_I x :: st) g σ τ cu su mc ms E := by
  intro p e R s m args below meth c H locs ls ad jk hF hR hI hL
  exact lv_icmp_gt hF.1 hF.2.1 hd ht (fun h => kt h _ _ _ _ _ _ _ _ _ _ _ _ _ _ hF hR hI hL) (fun h => kf h _ _ _ _ _ _ _ _ _ _ _ _ _ _ hF hR hI hL)
theorem pm_icmp_le {x y : Int32} {off : Int} (tgt : Nat) (hd : decode k.2.1 pc = .ok (.if_icmp .le off, 3)) (ht : (pc : Int) + off = (tgt : Int)) (kt : x ≤ y → pm_Y b d k tgt f lo st g σ τ cu su mc ms E) (kf : ¬ (x ≤ y) → pm_Y b d k (pc + 3) f lo st g σ τ cu su mc ms E) : pm_Y b d k pc f lo (pm_I y :: pm_I x :: st) g σ τ cu su mc ms E := by
  intro p e R s m args below meth c H locs ls ad jk hF hR hI hL
  exact lv_icmp_le hF.1 hF.2.1 hd ht (fun h => kt h _ _ _ _ _ _ _ _ _ _ _ _ _ _ hF hR hI hL) (fun h => kf h _ _ _ _ _ _ _ _ _ _ _ _ _ _ hF hR hI hL)
theorem pm_goto {off : Int} (tgt : Nat) (hd : decode k.2.1 pc = .ok (.goto off, 3)) (ht : (pc : Int) + off = (tgt : Int)) (K : pm_Y b d k tgt f lo st g σ τ cu su mc ms E) : pm_Y b d k pc f lo st g σ τ cu su mc ms E := by
  intro p e R s m args below meth c H locs ls ad jk hF hR hI hL
  exact lv_goto hF.1 hF.2.1 hd ht (K _ _ _ _ _ _ _ _ _ _ _ _ _ _ hF hR hI hL)
theorem pm_istore_n {j : Fin 4} {x : Int32} (hd : decode k.2.1 pc = .ok (.istore_n j, 1)) (hn : j.val < k.2.2.1) (K : pm_Y b d k (pc + 1) f (lo.set j.val (some (pm_I x))) st g σ τ cu su mc ms E) : pm_Y b d k pc f lo (pm_I x :: st) g σ τ cu su mc ms E := by
  intro p e R s m args below meth c H locs ls ad jk hF hR hI hL
  exact lv_istore_n hF.1 hF.2.1 hd rfl hL.has hn rfl (fun ls' h' => K _ _ _ _ _ _ _ _ _ _ _ ls' _ jk hF hR hI (hL.set (v := pm_I x) rfl h'))
theorem pm_istore {j : Nat} {x : Int32} (hd : decode k.2.1 pc = .ok (.istore j, 2)) (hn : j < k.2.2.1) (K : pm_Y b d k (pc + 2) f (lo.set j (some (pm_I x))) st g σ τ cu su mc ms E) : pm_Y b d k pc f lo (pm_I x :: st) g σ τ cu su mc ms E := by
  intro p e R s m args below meth c H locs ls ad jk hF hR hI hL
  exact lv_istore hF.1 hF.2.1 hd hL.has hn rfl (fun ls' h' => K _ _ _ _ _ _ _ _ _ _ _ ls' _ jk hF hR hI (hL.set (v := pm_I x) rfl h'))
theorem pm_astore_n {j : Fin 4} {x : Nat} (hd : decode k.2.1 pc = .ok (.astore_n j, 1)) (hn : j.val < k.2.2.1) (K : pm_Y b d k (pc + 1) f (lo.set j.val (some (pm_R x))) st g σ τ cu su mc ms E) : pm_Y b d k pc f lo (pm_R x :: st) g σ τ cu su mc ms E := by
  intro p e R s m args below meth c H locs ls ad jk hF hR hI hL
  exact lv_astore_n hF.1 hF.2.1 hd rfl hL.has hn rfl (fun ls' h' => K _ _ _ _ _ _ _ _ _ _ _ ls' _ jk hF hR hI (hL.set (v := pm_R x) rfl h'))
theorem pm_astore {j : Nat} {x : Nat} (hd : decode k.2.1 pc = .ok (.astore j, 2)) (hn : j < k.2.2.1) (K : pm_Y b d k (pc + 2) f (lo.set j (some (pm_R x))) st g σ τ cu su mc ms E) : pm_Y b d k pc f lo (pm_R x :: st) g σ τ cu su mc ms E := by
  intro p e R s m args below meth c H locs ls ad jk hF hR hI hL
  exact lv_astore hF.1 hF.2.1 hd hL.has hn rfl (fun ls' h' => K _ _ _ _ _ _ _ _ _ _ _ ls' _ jk hF hR hI (hL.set (v := pm_R x) rfl h'))
theorem pm_astore_n_j {j : Fin 4} (hd : decode k.2.1 pc = .ok (.astore_n j, 1)) (hn : j.val < k.2.2.1) (K : pm_Y b d k (pc + 1) f (lo.set j.val (some (pm_J))) st g σ τ cu su mc ms E) : pm_Y b d k pc f lo (pm_J :: st) g σ τ cu su mc ms E := by
  intro p e R s m args below meth c H locs ls ad jk hF hR hI hL
  exact lv_astore_n hF.1 hF.2.1 hd rfl hL.has hn rfl (fun ls' h' => K _ _ _ _ _ _ _ _ _ _ _ ls' _ jk hF hR hI (hL.set (v := pm_J) rfl h'))
theorem pm_astore_j {j : Nat} (hd : decode k.2.1 pc = .ok (.astore j, 2)) (hn : j < k.2.2.1) (K : pm_Y b d k (pc + 2) f (lo.set j (some (pm_J))) st g σ τ cu su mc ms E) : pm_Y b d k pc f lo (pm_J :: st) g σ τ cu su mc ms E := by
  intro p e R s m args below meth c H locs ls ad jk hF hR hI hL
  exact lv_astore hF.1 hF.2.1 hd hL.has hn rfl (fun ls' h' => K _ _ _ _ _ _ _ _ _ _ _ ls' _ jk hF hR hI (hL.set (v := pm_J) rfl h'))
theorem pm_iinc {j : Nat} {n : Int} {x : Int32} (hd : decode k.2.1 pc = .ok (.iinc j n, 3)) (hn : j < k.2.2.1) (hl : lo[j]? = some (some (pm_I x))) (K : pm_Y b d k (pc + 3) f (lo.set j (some (pm_I (x + Int32.ofInt n)))) st g σ τ cu su mc ms E) : pm_Y b d k pc f lo st g σ τ cu su mc ms E := by
  intro p e R s m args below meth c H locs ls ad jk hF hR hI hL
  have hm : ((j, Value.int x) : Nat × Value) ∈ pm_ll (pm_v ad b.2.2.2.2.2.1 jk) 0 lo := (pm_ll_mem lo 0 _).mpr ⟨j, pm_I x, hl, by rw [Nat.zero_add]; rfl⟩
  obtain ⟨q, hq, hq2⟩ := List.mem_iff_getElem.mp hm
  have hq3 : (pm_ll (pm_v ad b.2.2.2.2.2.1 jk) 0 lo)[q]? = some (j, Value.int x) := by rw [List.getElem?_eq_getElem hq, hq2]
  exact lv_iinc hF.1 hF.2.1 hd hL.has hq3 rfl hn rfl (fun ls' h' => K _ _ _ _ _ _ _ _ _ _ _ ls' _ jk hF hR hI (hL.set (v := pm_I (x + Int32.ofInt n)) rfl h'))
theorem pm_table {x : Int32} {dflt lo' hi off : Int} {offs : Array Int} {len : Nat} (tgt : Nat) (hd : decode k.2.1 pc = .ok (.tableswitch dflt lo' hi offs, len)) (h1 : ¬ x.toInt < lo') (h2 : ¬ hi < x.toInt) (ho : offs[(x.toInt - lo').toNat]? = some off) (ht : (pc : Int) + off = (tgt : Int)) (K : pm_Y b d k tgt f lo st g σ τ cu su mc ms E) : pm_Y b d k pc f lo (pm_I x :: st) g σ τ cu su mc ms E := by
  intro p e R s m args below meth c H locs ls ad jk hF hR hI hL
  exact lv_tableIn hF.1 hF.2.1 hd h1 h2 ho ht (K _ _ _ _ _ _ _ _ _ _ _ _ _ _ hF hR hI hL)
end PMR
end
section
/-! the heap: fields, arrays, the script -/
theorem pm_map_set {α : Type} (n j : Nat) (F F' : Nat → α) (h : ∀ a, a ≠ j → F' a = F a) {x : α} (hx : x = F' j) : ((List.range n).map F).set j x = (List.range n).map F' := by
  subst hx
  apply List.ext_getElem?
  intro a
  rw [List.getElem?_set]
  by_cases e : j = a
  · subst e
    rw [if_pos rfl, List.length_map, List.length_range]
    by_cases hj : j < n
    · rw [if_pos hj, List.getElem?_map, List.getElem?_range hj]; rfl
    · rw [if_neg hj, List.getElem?_eq_none]
      rw [List.length_map, List.length_range]; omega
  · rw [if_neg e]
    by_cases ha : a < n
    · rw [List.getElem?_map, List.getElem?_map, List.getElem?_range ha]
      show some (F a) = some (F' a)
      rw [h a fun z => e z.symm]
    · rw [List.getElem?_eq_none (by rw [List.length_map, List.length_range]; omega), List.getElem?_eq_none (by rw [List.length_map, List.length_range]; omega)]
/-- the entry idx of the type own's pool names the field j of the type ci -/
def pm_F (own : String) (idx ci j : Nat) : Prop := ∃ (C : String) (T : u_T), pm_cl[ci]? = some (C, T, pm_nf ci) ∧ j < pm_nf ci ∧ (T j).1 = C ∧ Cond.fieldLink own idx C (T j).2.1 (T j).2.2.1 ∈ pm_words ∧ ∀ w ∈ u_ws C T (pm_nf ci), w ∈ pm_words
def pm_FP (own : String) (idx ci j : Nat) (ty : FieldType) (fin : Bool) : Prop := ∃ (C : String) (T : u_T) (ty0 : Nat → FieldType), pm_cl[ci]? = some (C, T, pm_nf ci) ∧ j < pm_nf ci ∧ (T j).1 = C ∧ Cond.fieldLink own idx C (T j).2.1 (T j).2.2.1 ∈ pm_words ∧ (∀ w ∈ u_ws C T (pm_nf ci), w ∈ pm_words) ∧
  (∀ a, a < pm_nf ci → parseFieldDescriptor (T a).2.2.1 = some (ty0 a)) ∧ (∀ a, a < pm_nf ci → ∀ c, c < pm_nf ci → a ≠ c → (T a).2.1 ≠ (T c).2.1) ∧ (T j).2.2.2 = fin ∧ parseFieldDescriptor (T j).2.2.1 = some ty
abbrev pm_fs (ad : Nat → Nat) (g : pG) (σ : pI) (ci i : Nat) : Nat → Value := fun j => if pm_rf ci j = true then va_rf ((g.2.2 i j).map ad) else .int (σ i j)
theorem pm_ct_o {b : pB} {ad : Nat → Nat} {g : pG} {σ : pI} {τ : pJ} {i ci : Nat} (h : g.2.1 i = (0, ci)) : pm_ct b ad g σ τ i = .inr (ci, (List.range (pm_nf ci)).map (pm_fs ad g σ ci i)) := by
  unfold pm_ct
  rw [h]
  rfl
theorem pm_ct_i {b : pB} {ad : Nat → Nat} {g : pG} {σ : pI} {τ : pJ} {i n : Nat} (h : g.2.1 i = (1, n)) : pm_ct b ad g σ τ i = .inl (b.2.2.2.2.1.1, n, .inl (σ i)) := by
  unfold pm_ct
  rw [h]
  rfl
theorem pm_ct_a {b : pB} {ad : Nat → Nat} {g : pG} {σ : pI} {τ : pJ} {i n : Nat} (h : g.2.1 i = (2, n)) : pm_ct b ad g σ τ i = .inl (b.2.2.2.2.1.2.1, n, .inr (.inr (.inr (.inr fun j => (g.2.2 i j).map ad)))) := by
  unfold pm_ct
  rw [h]
  rfl
theorem pm_ct_l {b : pB} {ad : Nat → Nat} {g : pG} {σ : pI} {τ : pJ} {i n : Nat} (h : g.2.1 i = (3, n)) : pm_ct b ad g σ τ i = .inl (b.2.2.2.2.1.2.2, n, .inr (.inl (τ i))) := by
  unfold pm_ct
  rw [h]
  rfl
theorem pm_free {b : pB} {ad : Nat → Nat} {f wr : Bool} {g : pG} {σ : pI} {τ : pJ} {H : Heap} {locs : List Loc} (h : pm_inv b ad f g σ τ H locs) (hw : f = true → wr = true) : ∀ q ∈ locs, wr = true ∧ pm_A b q.base := by
  intro q hq
  refine ⟨?_, h.2.2.1.2.2 q hq⟩
  cases hf : f with
  | false => rw [h.2.2.2 hf] at hq; cases hq
  | true => exact hw hf
section PMH
variable {b : pB} {d : Nat} {k : pK} {pc : Nat} {f : Bool} {lo : List (Option pV)} {st : List pV} {g : pG} {σ : pI} {τ : pJ} {cu su mc ms : Nat} {E : pE}
variable {p : Program} {e : Env} {s : State} {m : MethodId} {args : Array Value} {meth : Method} {c : Code}
theorem pm_fr.own (h : pm_fr b k p e s m args meth c) : s.vm.findClass k.1.cls = some m.cls := h.2.2.2.1
theorem pm_fr.ret (h : pm_fr b k p e s m args meth c) : meth.sig.returnType = k.2.2.2.1 := h.2.2.2.2.1
theorem pm_fr.locks (h : pm_fr b k p e s m args meth c) : meth.locks = false := h.2.2.2.2.2.1
theorem pm_fr.name (h : pm_fr b k p e s m args meth c) : meth.name = k.1.name := h.2.2.2.2.2.2.1
theorem pm_fr.xt (h : pm_fr b k p e s m args meth c) : c.exceptionTable.toList.map (fun h => (h.startPc, h.endPc, h.handlerPc, h.catchType)) = k.2.2.2.2 := h.2.2.2.2.2.2.2.1
theorem pm_fr.ws (h : pm_fr b k p e s m args meth c) : ∀ w ∈ pm_words, w.before args s = true := h.2.2.2.2.2.2.2.2.1
theorem pm_fr.K (h : pm_fr b k p e s m args meth c) : va_K b.2.2.2.1 pm_cl (pm_tys b) s := h.2.2.2.2.2.2.2.2.2.1
theorem pm_fr.warm (h : pm_fr b k p e s m args meth c) : b.2.1.WarmedH s.vm := h.2.2.2.2.2.2.2.2.2.2.1
theorem pm_fr.S (h : pm_fr b k p e s m args meth c) : va_S (pm_A b) b.2.1.heap s.heap [] := h.2.2.2.2.2.2.2.2.2.2.2.1
theorem pm_fr.adm (h : pm_fr b k p e s m args meth c) : b.1.admits e := h.2.2.2.2.2.2.2.2.2.2.2.2
theorem pm_geti {idx ci j i : Nat} (hd : decode k.2.1 pc = .ok (.getfield idx, 3)) (hf : pm_F k.1.cls idx ci j) (hs : g.2.1 i = (0, ci)) (hi : i < g.1) (hr : pm_rf ci j = false) (K : pm_Y b d k (pc + 3) f lo (pm_I (σ i j) :: st) g σ τ cu su mc ms E) : pm_Y b d k pc f lo (pm_R i :: st) g σ τ cu su mc ms E := by
  intro p e R s m args below meth c H locs ls ad jk hF hR hI hL
  obtain ⟨C, T, h1, h2, h3, h4, h5⟩ := hf
  refine va_get (own := k.1.cls) (ref := C) (C := C) (T := T) (N := pm_nf ci) (v := .int (σ i j)) hF.1 hF.2.1 hF.ws h5 hF.own hF.K hI.1 i (by rw [pm_ws_get hi, pm_ct_o hs]) h1 j h2 (hF.ws _ h4) (fun x h => by rw [h3] at h; exact h) ?_ hd (K _ _ _ _ _ _ _ _ _ _ _ _ _ _ hF hR hI hL)
  rw [List.getElem?_map, List.getElem?_range h2]
  show some (if pm_rf ci j = true then _ else _) = _
  rw [hr]
  rfl
theorem pm_getr {idx ci j i r : Nat} (hd : decode k.2.1 pc = .ok (.getfield idx, 3)) (hf : pm_F k.1.cls idx ci j) (hs : g.2.1 i = (0, ci)) (hi : i < g.1) (hr : pm_rf ci j = true) (hv : g.2.2 i j = some r) (K : pm_Y b d k (pc + 3) f lo (pm_R r :: st) g σ τ cu su mc ms E) : pm_Y b d k pc f lo (pm_R i :: st) g σ τ cu su mc ms E := by
  intro p e R s m args below meth c H locs ls ad jk hF hR hI hL
  obtain ⟨C, T, h1, h2, h3, h4, h5⟩ := hf
  refine va_get (own := k.1.cls) (ref := C) (C := C) (T := T) (N := pm_nf ci) (v := .ref (ad r)) hF.1 hF.2.1 hF.ws h5 hF.own hF.K hI.1 i (by rw [pm_ws_get hi, pm_ct_o hs]) h1 j h2 (hF.ws _ h4) (fun x h => by rw [h3] at h; exact h) ?_ hd (K _ _ _ _ _ _ _ _ _ _ _ _ _ _ hF hR hI hL)
  rw [List.getElem?_map, List.getElem?_range h2]
  show some (if pm_rf ci j = true then va_rf ((g.2.2 i j).map ad) else _) = _
  rw [hr, hv]
  rfl
theorem pm_puti {idx ci j i : Nat} {x : Int32} (hd : decode k.2.1 pc = .ok (.putfield idx, 3)) (hf : pm_FP k.1.cls idx ci j .int false) (hs : g.2.1 i = (0, ci)) (hi : i < g.1) (hr : pm_rf ci j = false) (K : pm_Y b d k (pc + 3) true lo st g (pm_up σ i j x) τ cu su mc ms E) : pm_Y b d k pc f lo (pm_I x :: pm_R i :: st) g σ τ cu su mc ms E := by
  intro p e R s m args below meth c H locs ls ad jk hF hR hI hL
  obtain ⟨C, T, ty0, h1, h2, h3, h4, h5, h6, h7, h8, h9⟩ := hf
  refine va_put (own := k.1.cls) (ref := C) (C := C) (T := T) (N := pm_nf ci) (v := .int x) (ty := .int) hF.1 hF.2.1 hF.ws h5 ty0 h6 h7 hF.own hF.K hI.1 hI.2.1.to hI.2.2.1 i (by rw [pm_ws_get hi, pm_ct_o hs]) h1 j h2 (hF.ws _ h4) (fun x h => by rw [h3] at h; exact h) h8 h9 rfl rfl (by rw [List.length_map, List.length_range]; exact h2) hd (fun H1 locs1 hP _ hS => ?_)
  have hm : ((List.range (pm_nf ci)).map (pm_fs ad g σ ci i)).set j (.int x) = (List.range (pm_nf ci)).map (pm_fs ad g (pm_up σ i j x) ci i) := by
    refine pm_map_set (pm_nf ci) j (pm_fs ad g σ ci i) (pm_fs ad g (pm_up σ i j x) ci i) (fun a ha => ?_) ?_
    · show (if pm_rf ci a = true then va_rf ((g.2.2 i a).map ad) else Value.int (pm_up σ i j x i a)) = (if pm_rf ci a = true then va_rf ((g.2.2 i a).map ad) else Value.int (σ i a))
      rw [pm_up_ne (fun z => ha z.2)]
    · show _ = (if pm_rf ci j = true then va_rf ((g.2.2 i j).map ad) else Value.int (pm_up σ i j x i j))
      rw [hr, pm_up_at]
      rfl
  refine K _ _ _ _ _ _ _ _ _ H1 locs1 _ _ _ hF hR ⟨?_, hI.2.1, hS, fun h => by cases h⟩ hL
  rw [hm, pm_ws_set (g' := g) (σ' := pm_up σ i j x) (τ' := τ) rfl (fun a ha => pm_ct_row (pm_up_row ha) rfl) (by rw [pm_ct_o hs])] at hP
  exact hP
theorem pm_putz {idx ci j i : Nat} {x : Int32} (hd : decode k.2.1 pc = .ok (.putfield idx, 3)) (hf : pm_FP k.1.cls idx ci j .boolean false) (hs : g.2.1 i = (0, ci)) (hi : i < g.1) (hr : pm_rf ci j = false) (hx : x = 0 ∨ x = 1) (K : pm_Y b d k (pc + 3) true lo st g (pm_up σ i j x) τ cu su mc ms E) : pm_Y b d k pc f lo (pm_I x :: pm_R i :: st) g σ τ cu su mc ms E := by
  intro p e R s m args below meth c H locs ls ad jk hF hR hI hL
  obtain ⟨C, T, ty0, h1, h2, h3, h4, h5, h6, h7, h8, h9⟩ := hf
  refine va_put (own := k.1.cls) (ref := C) (C := C) (T := T) (N := pm_nf ci) (v := .int x) (ty := .boolean) hF.1 hF.2.1 hF.ws h5 ty0 h6 h7 hF.own hF.K hI.1 hI.2.1.to hI.2.2.1 i (by rw [pm_ws_get hi, pm_ct_o hs]) h1 j h2 (hF.ws _ h4) (fun x h => by rw [h3] at h; exact h) h8 h9 (by rcases hx with rfl | rfl <;> rfl) (by rcases hx with rfl | rfl <;> rfl) (by rw [List.length_map, List.length_range]; exact h2) hd (fun H1 locs1 hP _ hS => ?_)
  have hm : ((List.range (pm_nf ci)).map (pm_fs ad g σ ci i)).set j (.int x) = (List.range (pm_nf ci)).map (pm_fs ad g (pm_up σ i j x) ci i) := by
    refine pm_map_set (pm_nf ci) j (pm_fs ad g σ ci i) (pm_fs ad g (pm_up σ i j x) ci i) (fun a ha => ?_) ?_
    · show (if pm_rf ci a = true then va_rf ((g.2.2 i a).map ad) else Value.int (pm_up σ i j x i a)) = (if pm_rf ci a = true then va_rf ((g.2.2 i a).map ad) else Value.int (σ i a))
      rw [pm_up_ne (fun z => ha z.2)]
    · show _ = (if pm_rf ci j = true then va_rf ((g.2.2 i j).map ad) else Value.int (pm_up σ i j x i j))
      rw [hr, pm_up_at]
      rfl
  refine K _ _ _ _ _ _ _ _ _ H1 locs1 _ _ _ hF hR ⟨?_, hI.2.1, hS, fun h => by cases h⟩ hL
  rw [hm, pm_ws_set (g' := g) (σ' := pm_up σ i j x) (τ' := τ) rfl (fun a ha => pm_ct_row (pm_up_row ha) rfl) (by rw [pm_ct_o hs])] at hP
  exact hP
theorem pm_iaload {i n : Nat} {x : Int32} (j : Nat) (hd : decode k.2.1 pc = .ok (.iaload, 1)) (hs : g.2.1 i = (1, n)) (hi : i < g.1) (hx : x = nI j) (hj : j < n) (hn : n < 2 ^ 31) (K : pm_Y b d k (pc + 1) f lo (pm_I (σ i j) :: st) g σ τ cu su mc ms E) : pm_Y b d k pc f lo (pm_I x :: pm_R i :: st) g σ τ cu su mc ms E := by
  intro p e R s m args below meth c H locs ls ad jk hF hR hI hL
  subst hx
  have hc : (nI j).toNatClampNeg = j := nI_clamp (Nat.lt_trans hj hn)
  refine va_iald hF.1 hF.2.1 hF.K hI.1 i 0 (by rw [pm_ws_get hi, pm_ct_i hs]) rfl (vp_in_nI hj hn) hd ?_
  rw [hc]
  exact K _ _ _ _ _ _ _ _ _ _ _ _ _ _ hF hR hI hL
theorem pm_iastore {i n : Nat} {x v : Int32} (j : Nat) (hd : decode k.2.1 pc = .ok (.iastore, 1)) (hs : g.2.1 i = (1, n)) (hi : i < g.1) (hx : x = nI j) (hj : j < n) (hn : n < 2 ^ 31) (K : pm_Y b d k (pc + 1) true lo st g (pm_up σ i j v) τ cu su mc ms E) : pm_Y b d k pc f lo (pm_I v :: pm_I x :: pm_R i :: st) g σ τ cu su mc ms E := by
  intro p e R s m args below meth c H locs ls ad jk hF hR hI hL
  subst hx
  have hc : (nI j).toNatClampNeg = j := nI_clamp (Nat.lt_trans hj hn)
  refine va_iast hF.1 hF.2.1 hF.K hI.1 hI.2.1.to hI.2.2.1 i 0 (by rw [pm_ws_get hi, pm_ct_i hs]) rfl (vp_in_nI hj hn) hd (fun H1 locs1 hP _ hS => ?_)
  refine K _ _ _ _ _ _ _ _ _ H1 locs1 _ _ _ hF hR ⟨?_, hI.2.1, hS, fun h => by cases h⟩ hL
  rw [hc, pm_ws_set (g' := g) (σ' := pm_up σ i j v) (τ' := τ) rfl (fun a ha => pm_ct_row (pm_up_row ha) rfl) (by rw [pm_ct_i hs, pm_up_upd])] at hP
  exact hP
theorem pm_aaload {i n r : Nat} {x : Int32} (j : Nat) (hd : decode k.2.1 pc = .ok (.aaload, 1)) (hs : g.2.1 i = (2, n)) (hi : i < g.1) (hx : x = nI j) (hj : j < n) (hn : n < 2 ^ 31) (hv : g.2.2 i j = some r) (K : pm_Y b d k (pc + 1) f lo (pm_R r :: st) g σ τ cu su mc ms E) : pm_Y b d k pc f lo (pm_I x :: pm_R i :: st) g σ τ cu su mc ms E := by
  intro p e R s m args below meth c H locs ls ad jk hF hR hI hL
  subst hx
  have hc : (nI j).toNatClampNeg = j := nI_clamp (Nat.lt_trans hj hn)
  have hcell := hI.1 i _ (pm_ws_get hi)
  rw [pm_ct_a hs] at hcell
  refine W.aald (v := .ref (ad r)) (ty := .array .int) hF.1 hF.2.1 hcell ((hF.K.2 1 _ rfl).1 n (fun q => va_rf ((g.2.2 i q).map ad))) rfl (fun q => by cases q) (by show ¬ (nI j < 0 ∨ (arrV _ _ _).slots.size ≤ _); rw [arrV_size]; exact vp_in_nI hj hn) (by show (arrV _ _ _).slots[_]? = _; rw [hc, arrV_read _ _ hj]; show some (va_rf ((g.2.2 i j).map ad)) = _; rw [hv]; rfl) rfl rfl hd ?_
  exact K _ _ _ _ _ _ _ _ _ _ _ _ _ _ hF hR hI hL
theorem pm_laload {i n : Nat} {x : Int32} (j : Nat) (hd : decode k.2.1 pc = .ok (.laload, 1)) (hs : g.2.1 i = (3, n)) (hi : i < g.1) (hx : x = nI j) (hj : j < n) (hn : n < 2 ^ 31) (K : pm_Y b d k (pc + 1) f lo (pm_L (τ i j) :: st) g σ τ cu su mc ms E) : pm_Y b d k pc f lo (pm_I x :: pm_R i :: st) g σ τ cu su mc ms E := by
  intro p e R s m args below meth c H locs ls ad jk hF hR hI hL
  subst hx
  have hc : (nI j).toNatClampNeg = j := nI_clamp (Nat.lt_trans hj hn)
  refine va_lald hF.1 hF.2.1 hF.K hI.1 i 2 (by rw [pm_ws_get hi, pm_ct_l hs]) rfl (vp_in_nI hj hn) hd ?_
  rw [hc]
  exact K _ _ _ _ _ _ _ _ _ _ _ _ _ _ hF hR hI hL
theorem pm_lastore {i n : Nat} {x : Int32} {v : Int64} (j : Nat) (hd : decode k.2.1 pc = .ok (.lastore, 1)) (hs : g.2.1 i = (3, n)) (hi : i < g.1) (hx : x = nI j) (hj : j < n) (hn : n < 2 ^ 31) (K : pm_Y b d k (pc + 1) true lo st g σ (pm_upL τ i j v) cu su mc ms E) : pm_Y b d k pc f lo (pm_L v :: pm_I x :: pm_R i :: st) g σ τ cu su mc ms E := by
  intro p e R s m args below meth c H locs ls ad jk hF hR hI hL
  subst hx
  have hc : (nI j).toNatClampNeg = j := nI_clamp (Nat.lt_trans hj hn)
  refine va_last hF.1 hF.2.1 hF.K hI.1 hI.2.1.to hI.2.2.1 i 2 (by rw [pm_ws_get hi, pm_ct_l hs]) rfl (vp_in_nI hj hn) hd (fun H1 locs1 hP _ hS => ?_)
  refine K _ _ _ _ _ _ _ _ _ H1 locs1 _ _ _ hF hR ⟨?_, hI.2.1, hS, fun h => by cases h⟩ hL
  rw [hc, pm_ws_set (g' := g) (σ' := σ) (τ' := pm_upL τ i j v) rfl (fun a ha => pm_ct_row rfl (pm_upL_row ha)) (by rw [pm_ct_l hs, pm_upL_upd])] at hP
  exact hP
/-- returns -/
theorem pm_ireturn {wr : Bool} {Q : Option Int32 → pI → pJ → Prop} {x : Int32} (hd : decode k.2.1 pc = .ok (.ireturn, 1)) (hr : k.2.2.2.1 = some .int) (hw : f = true → wr = true) (hc : cu ≤ mc) (hs : su ≤ ms) (hq : Q (some x) σ τ) : pm_Y b d k pc f lo [pm_I x] g σ τ cu su mc ms (.inl (wr, Q)) := by
  intro p e R s m args below meth c H locs ls ad jk hF hR hI hL
  have hlocks := hF.locks
  refine W.widen hc hs ?_
  exact W.iret (v := x) (Qc := pm_Qr b k ad g Q) (free := fun q => wr = true ∧ pm_A b q) hF.1 hF.2.1 (hF.ret.trans hr) (fun t ht hW => ⟨some x, σ, τ, rfl, by rw [hr]; rfl, hq, by rw [ht]; exact hI.1, by rw [ht]; exact ⟨hI.2.2.1.1, hI.2.2.1.2.1, fun q h => by cases h⟩⟩) (pm_free hI hw) hd
theorem pm_zreturn {wr : Bool} {Q : Option Int32 → pI → pJ → Prop} {x : Int32} (hd : decode k.2.1 pc = .ok (.ireturn, 1)) (hr : k.2.2.2.1 = some .boolean) (hx : x = 0 ∨ x = 1) (hw : f = true → wr = true) (hc : cu ≤ mc) (hs : su ≤ ms) (hq : Q (some x) σ τ) : pm_Y b d k pc f lo [pm_I x] g σ τ cu su mc ms (.inl (wr, Q)) := by
  intro p e R s m args below meth c H locs ls ad jk hF hR hI hL
  have hlocks := hF.locks
  refine W.widen hc hs ?_
  exact W.zret (v := x) (Qc := pm_Qr b k ad g Q) (free := fun q => wr = true ∧ pm_A b q) hF.1 hF.2.1 (hF.ret.trans hr) (by rcases hx with rfl | rfl <;> rfl) (fun t ht hW => ⟨some x, σ, τ, rfl, by rw [hr]; rfl, hq, by rw [ht]; exact hI.1, by rw [ht]; exact ⟨hI.2.2.1.1, hI.2.2.1.2.1, fun q h => by cases h⟩⟩) (pm_free hI hw) hd
theorem pm_return {wr : Bool} {Q : Option Int32 → pI → pJ → Prop} (hd : decode k.2.1 pc = .ok (.return_, 1)) (hr : k.2.2.2.1 = none) (hw : f = true → wr = true) (hc : cu ≤ mc) (hs : su ≤ ms) (hq : Q none σ τ) : pm_Y b d k pc f lo [] g σ τ cu su mc ms (.inl (wr, Q)) := by
  intro p e R s m args below meth c H locs ls ad jk hF hR hI hL
  have hlocks := hF.locks
  refine W.widen hc hs ?_
  exact W.vret (Qc := pm_Qr b k ad g Q) (free := fun q => wr = true ∧ pm_A b q) hF.1 hF.2.1 (hF.ret.trans hr) (fun t ht hW => ⟨none, σ, τ, rfl, by rw [hr]; rfl, hq, by rw [ht]; exact hI.1, by rw [ht]; exact ⟨hI.2.2.1.1, hI.2.2.1.2.1, fun q h => by cases h⟩⟩) (pm_free hI hw) hd
end PMH
end
section
/-! calls -/
def pm_word (k : pK) : Cond := match k.2.2.2.2 with
  | [] => .code k.1 k.2.1 k.2.2.1 k.2.2.2.1
  | h :: t => .codeWith k.1 k.2.1 k.2.2.1 k.2.2.2.1 (h :: t)
def pm_kok (k : pK) : Prop := plainName k.1.cls = true ∧ k.2.2.1 ≤ 40 ∧ pm_word k ∈ pm_words ∧ Cond.initialized k.1.cls ∈ pm_words ∧ k.1.cls ≠ "java/lang/invoke/MethodHandle" ∧ k.1.cls ≠ "java/lang/invoke/VarHandle"
def pm_base (b : pB) : Prop := (∀ w ∈ pm_words, w.before b.2.2.1 b.2.1 = true) ∧ va_K b.2.2.2.1 pm_cl (pm_tys b) b.2.1 ∧ va_X b.2.2.2.2.2.1 b.2.2.2.2.2.2.1 b.2.2.2.2.2.2.2 b.2.1 b.2.1.heap
def pm_nj : pV → Bool
  | .inr (.inr (.inr false)) => false
  | _ => true
theorem pm_nj_eq {ad : Nat → Nat} {sc jk jk' : Nat} {v : pV} (h : pm_nj v = true) : pm_v ad sc jk v = pm_v ad sc jk' v := by
  rcases v with x | x | x | x
  · rfl
  · rfl
  · rfl
  · cases x
    · cases h
    · rfl
theorem pm_nj_map {ad : Nat → Nat} {sc jk jk' : Nat} {vs : List pV} (h : vs.all pm_nj = true) : vs.map (pm_v ad sc jk) = vs.map (pm_v ad sc jk') := by
  rw [List.all_eq_true] at h
  exact List.map_congr_left fun v hv => pm_nj_eq (h v hv)
theorem pm_words_at {b : pB} (hB : pm_base b) {s : State} (hW : b.2.1.WarmedH s.vm) {args : Array Value} : ∀ w ∈ pm_words, w.before args s = true := fun w hw => pm_at hW (pm_good w hw) (hB.1 w hw)
def pm_Pc (b : pB) (ad : Nat → Nat) (vs : List pV) (g : pG) (σ : pI) (τ : pJ) : Array Value → State → Prop := va_Pc (vs.map (pm_v ad b.2.2.2.2.2.1 0)) (fun U => b.2.1.WarmedH U.vm ∧ va_S (pm_A b) b.2.1.heap U.heap [] ∧ pm_P b ad g σ τ U.heap ∧ pm_D b ad g.1)
theorem pm_blind {b : pB} {ad : Nat → Nat} {vs : List pV} {g : pG} {σ : pI} {τ : pJ} : FrameBlind (pm_Pc b ad vs g σ τ) := fun _ _ _ _ h => ⟨h.1, h.2.1, h.2.2.1, h.2.2.2.1, h.2.2.2.2⟩
theorem pm_sl {ad : Nat → Nat} {sc jk : Nat} : ∀ (vs : List pV), vs.all pm_one = true → lg_sl (vs.map (pm_v ad sc jk)) = vs.map fun v => Slot.val (pm_v ad sc jk v)
  | [], _ => rfl
  | v :: t, h => by
    rw [List.all_cons, Bool.and_eq_true] at h
    have e : lg_sl ((v :: t).map (pm_v ad sc jk)) = (if (pm_v ad sc jk v).category = 2 then [.val (pm_v ad sc jk v), .second] else [.val (pm_v ad sc jk v)]) ++ lg_sl (t.map (pm_v ad sc jk)) := rfl
    rw [e, pm_sl t h.2, if_neg (by rw [pm_v_one h.1]; decide)]
    rfl
theorem pm_entry {b : pB} {ad : Nat → Nat} {n : Nat} {vs : List pV} (h1 : vs.all pm_one = true) (hn : vs.length ≤ n) :
    pm_lo b ad 0 n (vs.map some ++ List.replicate (n - vs.length) none) ((lg_sl (vs.map (pm_v ad b.2.2.2.2.2.1 0)) ++ List.replicate (n - (lg_sl (vs.map (pm_v ad b.2.2.2.2.2.1 0))).length) Slot.unset).toArray) := by
  have hl : (lg_sl (vs.map (pm_v ad b.2.2.2.2.2.1 0))).length = vs.length := by rw [pm_sl vs h1, List.length_map]
  have he := lv_entry (vs.map (pm_v ad b.2.2.2.2.2.1 0)) (n := n) (by rw [hl]; exact hn)
  refine ⟨he.1, he.2.1, fun i v hi => ?_⟩
  have hi2 : vs[i]? = some v := by
    rw [List.getElem?_append] at hi
    by_cases hlt : i < (vs.map some).length
    · rw [if_pos hlt, List.getElem?_map] at hi
      cases hv : vs[i]? with
      | none => rw [hv] at hi; cases hi
      | some w => rw [hv] at hi; exact congrArg some (Option.some.inj (Option.some.inj hi))
    · rw [if_neg hlt] at hi
      have := List.mem_of_getElem? hi
      rw [List.mem_replicate] at this
      exact absurd this.2 (by simp)
  refine ⟨?_, List.all_eq_true.mp h1 v (List.mem_of_getElem? hi2)⟩
  rw [List.getElem?_toArray, List.getElem?_append_left (by rw [hl]; exact (List.getElem?_eq_some_iff.mp hi2).1), pm_sl vs h1, List.getElem?_map, hi2]
  rfl
section PMC
variable {b : pB} {d : Nat} {k : pK} {g : pG} {σ : pI} {τ : pJ} {mc ms : Nat} {E : pE} {vs : List pV} {ad : Nat → Nat}
theorem pm_body (hB : pm_base b) (hC : pm_C b d k vs g σ τ mc ms E) (h1 : vs.all pm_one = true) (hn : vs.length ≤ k.2.2.1) {S : Spec} (hS : S.room = pm_rm d mc ms)
    (hpre : ∀ (args : Array Value) (s : State), S.pre.before args s = true → (pm_word k).before args s = true)
    {p : Program} {e : Env} {s : State} {m : MethodId} {args : Array Value} {below : List Frame} {meth : Method} {c : Code} {s₁ : State}
    (B : BodyLoose p b.1 k.1 S k.2.1 k.2.2.1 k.2.2.2.1 e s m args below meth c s₁) (hml : c.maxLocals = k.2.2.1) (hv : pm_Pc b ad vs g σ τ args s) :
    W p b.1 e S.room s m args below meth c s.heap [] 0 0 (pm_end b k E ad g below args s mc ms) (entryFrame m args k.2.2.1) := by
  obtain ⟨rfl, h2, h3, h4, h5⟩ := hv
  have hcode : meth.code = some c := (Stand.of_body B).code
  have hxt : c.exceptionTable.toList.map (fun h => (h.startPc, h.endPc, h.handlerPc, h.catchType)) = k.2.2.2.2 := by
    have hw := hpre _ _ B.pre
    unfold pm_word at hw
    cases hh : k.2.2.2.2 with
    | nil =>
      rw [hh] at hw
      obtain ⟨meth', c', q1, q2, -, -, -, -, q7, -⟩ := Cond.code_spec B.named hw
      cases B.method.symm.trans q1
      cases hcode.symm.trans q2
      rw [Array.isEmpty_iff] at q7
      rw [q7]
      rfl
    | cons x t =>
      rw [hh] at hw
      obtain ⟨m', meth', c', q0, q1, q2, -, -, q7, -⟩ := Cond.codeWith_spec hw
      cases B.named.symm.trans q0
      cases B.method.symm.trans q1
      cases hcode.symm.trans q2
      exact q7
  rw [lg_entry_eq]
  exact hC p e S.room s m _ below meth c s.heap [] _ ad 0
    ⟨B.exec, B.bytes, hml, findClass_of_methodNamed B.named, B.returns, B.notSynchronized, (name_of_methodNamed B.named B.method).1, hxt, pm_words_at hB h2, va_K.moved h2.alike hB.2.1, h2, h3, B.admits⟩
    (by rw [hS]; exact pm_rm_ok d mc ms) ⟨h4, h5, h3, fun _ => rfl⟩ (pm_entry h1 hn)
theorem pm_met (hB : pm_base b) (hk : pm_kok k) (hC : pm_C b d k vs g σ τ mc ms E) (h1 : vs.all pm_one = true) (hn : vs.length ≤ k.2.2.1) {Qc : Array Value → State → Outcome → State → Prop} {free : Addr → Prop}
    (hE : ∀ below args s, pm_end b k E ad g below args s mc ms = MQ below Qc args s mc ms free) : Met b.1 k.1 [pm_word k] (pm_rm d mc ms) (pm_Pc b ad vs g σ τ) Qc mc ms free := by
  have hp : ∀ (args : Array Value) (s : State), (headSpec [pm_word k] (pm_rm d mc ms)).pre.before args s = true → (pm_word k).before args s = true := fun args s h => atoms_spec (ws := [pm_word k]) h _ List.mem_cons_self
  cases hh : k.2.2.2.2 with
  | nil =>
    refine Met.ofW (cc := k.2.1) (maxL := k.2.2.1) (ret := k.2.2.2.1) (ws' := []) hk.1 (by unfold pm_word; rw [hh]) ?_
    intro p e s m args below meth c s₁ B hml hv
    have := pm_body hB hC h1 hn rfl hp B hml hv
    rw [hE] at this
    exact this
  | cons x t =>
    refine va_MetW (cc := k.2.1) (maxL := k.2.2.1) (ret := k.2.2.2.1) (hh := x :: t) (ws' := []) hk.1 (by unfold pm_word; rw [hh]) ?_
    intro p e s m args below meth c s₁ B hml hv
    have := pm_body hB hC h1 hn rfl hp B hml hv
    rw [hE] at this
    exact this
theorem pm_metT {X : String} (hB : pm_base b) (hk : pm_kok k) (hC : pm_C b d k vs g σ τ mc ms (.inr (.inl X))) (h1 : vs.all pm_one = true) (hn : vs.length ≤ k.2.2.1) :
    MetFree b.1 k.1 (headSpec [pm_word k] (pm_rm d mc ms)) (pm_Pc b ad vs g σ τ) (fun _ _ _ _ _ => True) (pm_Qt X mc ms) := by
  have hp : ∀ (args : Array Value) (s : State), (headSpec [pm_word k] (pm_rm d mc ms)).pre.before args s = true → (pm_word k).before args s = true := fun args s h => atoms_spec (ws := [pm_word k]) h _ List.mem_cons_self
  refine MetFree.of_bodyS (code := k.2.1) (maxLocals := k.2.2.1) (ret := k.2.2.2.1) hk.1 ?_ ?_
  · intro args s m h hn
    have hw := hp args s h
    unfold pm_word at hw
    cases hh : k.2.2.2.2 with
    | nil =>
      rw [hh] at hw
      obtain ⟨meth, c, q1, q2, q3, q4, q5, q6, -, -⟩ := Cond.code_spec hn hw
      exact ⟨meth, c, q1, q2, q3, q4, q5, q6⟩
    | cons x t =>
      rw [hh] at hw
      obtain ⟨m', meth, c, q0, q1, q2, q3, q4, -, q5, q6, -⟩ := Cond.codeWith_spec hw
      cases hn.symm.trans q0
      exact ⟨meth, c, q1, q2, q3, q4, q5, q6⟩
  · intro p e s m args below meth c s₁ B hml hv _
    have hh0 : s₁.heap = s.heap := by rw [B.state]; rfl
    obtain ⟨t, a1, o, b1, b2, b3⟩ := pm_body hB hC h1 hn rfl hp B hml hv s₁ hh0 (Stand.of_body B)
    exact ⟨t, o, a1, b1, b2, b3⟩
end PMC
section PMD
variable {b : pB} {d : Nat} {k k' : pK} {pc : Nat} {f : Bool} {lo : List (Option pV)} {rest : List pV} {g : pG} {σ : pI} {τ : pJ} {cu su mc ms mc' ms' : Nat} {E : pE}
variable {p : Program} {e : Env} {R : Room} {s : State} {m : MethodId} {args : Array Value} {below : List Frame} {meth : Method} {c : Code} {H : Heap} {locs : List Loc} {ls : Array Slot} {ad : Nat → Nat} {jk : Nat}
/-- behind a call that returns and makes no cell of the world -/
theorem pm_after {st0 : List Value} {a : Array Value} {wr : Bool} {Q : Option Int32 → pI → pJ → Prop}
    (hrun : va_Run p b.1 e R s m args below meth c H locs cu su mc' ms' (F0 m pc ls st0) (rest.map (pm_v ad b.2.2.2.2.2.1 jk)) (pm_Qr b k' ad g Q a) (fun q => wr = true ∧ pm_A b q))
    (hF : pm_fr b k p e s m args meth c) (hR : pm_room d mc ms R) (hI : pm_inv b ad f g σ τ H locs) (hL : pm_lo b ad jk k.2.2.1 lo ls)
    (hK : ∀ (v : Option Int32) (σ' : pI) (τ' : pJ), v.isSome = k'.2.2.2.1.isSome → Q v σ' τ' → pm_Y b d k (pc + 3) (f || wr) lo (v.toList.map pm_I ++ rest) g σ' τ' (cu + mc') (su + ms') mc ms E) :
    W p b.1 e R s m args below meth c H locs cu su (pm_end b k E ad g below args s mc ms) (F0 m pc ls st0) := by
  intro T hT X
  obtain ⟨v, st₀, t, T', L, h0, X', hL', e1, e2, ⟨v', σ', τ', hv, his, hq, hP', hS'⟩, st⟩ := hrun T hT X
  cases hv
  have hinv : pm_inv b ad (f || wr) g σ' τ' T'.heap (locs ++ L) := by
    refine ⟨by rw [e1]; exact hP', hI.2.1, ⟨by rw [e1]; exact hS'.1, by rw [e1]; exact hS'.2.1, fun q hq' => ?_⟩, fun hfw => ?_⟩
    · rcases List.mem_append.mp hq' with h | h
      · exact hI.2.2.1.2.2 q h
      · exact (hL' q h).2
    · rw [Bool.or_eq_false_iff] at hfw
      have hL0 : L = [] := List.eq_nil_iff_forall_not_mem.mpr fun q hq' => by
        have := (hL' q hq').1
        rw [hfw.2] at this
        cases this
      rw [hI.2.2.2 hfw.1, hL0]
      rfl
  obtain ⟨t2, a1, b1⟩ := hK v' σ' τ' his hq p e R s m args below meth c T'.heap (locs ++ L) ls ad jk hF hR hinv hL T' rfl X'
  refine ⟨t2, st t2 ?_, b1⟩
  have es : (v'.toList.map pm_I ++ rest).map (pm_v ad b.2.2.2.2.2.1 jk) = (v'.map Value.int).toList ++ rest.map (pm_v ad b.2.2.2.2.2.1 jk) := by
    cases v' <;> rfl
  rw [es] at a1
  exact a1
/-- the call's words: the entry idx of own's pool is the method k', of n parameters -/
def pm_CV (own : String) (idx : Nat) (k' : pK) (n : Nat) : Prop := Cond.methodLink own idx k'.1 ∈ pm_words ∧ Cond.instanceMethod k'.1 ∈ pm_words ∧ Cond.selects k'.1.cls k'.1 k'.1 ∈ pm_words ∧ (parseMethodDescriptor k'.1.desc).map (fun d => d.parameters.length) = some n ∧ pm_kok k' ∧ k'.2.2.2.2 = []
theorem pm_callB {n : Nat} {own : String} {idx : Nat} (hF : pm_fr b k p e s m args meth c) (hR : pm_room (d + 1) mc ms R) (hl : Cond.methodLink own idx k'.1 ∈ pm_words) (hp : (parseMethodDescriptor k'.1.desc).map (fun d => d.parameters.length) = some n) (hk : pm_kok k') (hx : k'.2.2.2.2 = []) :
    CallB R s args own idx k'.1 k'.2.1 k'.2.2.1 k'.2.2.2.1 [pm_word k'] (pm_rm d mc' ms') mc' ms' n := by
  have hw : pm_word k' = .code k'.1 k'.2.1 k'.2.2.1 k'.2.2.2.1 := by unfold pm_word; rw [hx]
  have hk2 := hk.2.1
  have hR1 := hR.1
  have hR2 := hR.2.1
  refine ⟨rfl, rfl, ?_, ?_, fun w hw' a' U hW => ?_, by rw [hw]; exact List.mem_cons_self, by rw [← hw]; exact hF.ws _ hk.2.2.1, hF.ws _ hk.2.2.2.1, hk.2.2.2.2, fun sig h => ?_, hF.ws _ hl⟩
  · show d + 7 + 1 ≤ R.frames
    omega
  · show 8 + (k'.2.2.1 + 11) + (64 * d + 120) ≤ R.locals
    omega
  · rw [List.mem_singleton] at hw'
    subst hw'
    exact pm_at hW (pm_good _ hk.2.2.1) (hF.ws _ hk.2.2.1)
  · rw [h] at hp
    exact (Option.some.inj hp).symm
theorem pm_cellAt {i ci : Nat} {C : String} {T : u_T} {N : Nat} (hF : pm_fr b k p e s m args meth c) (hP : pm_P b ad g σ τ H) (hs : g.2.1 i = (0, ci)) (hi : i < g.1) (hc : pm_cl[ci]? = some (C, T, N)) : ∃ cellB : Cell, H[ad i]? = some cellB ∧ cellB.vm.isStatics = false ∧ s.vm.findClass C = some cellB.cls := by
  have h := hP i _ (pm_ws_get hi)
  rw [pm_ct_o hs] at h
  obtain ⟨r, h1, cell, q1, q2, q3, q4⟩ := h
  refine ⟨cell, q1, by rw [q3]; rfl, ?_⟩
  rw [q2]
  exact (hF.K.1 ci _ hc).2.1
theorem pm_pre {vs : List pV} (hF : pm_fr b k p e s m args meth c) (hI : pm_inv b ad f g σ τ H locs) {U : State} (hU : U.heap = H) (hW : s.WarmedH U.vm) {av : List Value} (ha : av = vs.map (pm_v ad b.2.2.2.2.2.1 0)) : pm_Pc b ad vs g σ τ av.toArray U := by
  refine ⟨by rw [ha], State.WarmedH.trans hF.warm hW, ?_, by rw [hU]; exact hI.1, hI.2.1⟩
  rw [hU]
  exact ⟨hI.2.2.1.1, hI.2.2.1.2.1, fun q h => by cases h⟩
end PMD
section PMV
variable {b : pB} {d : Nat} {k k' : pK} {pc : Nat} {f : Bool} {lo : List (Option pV)} {rest : List pV} {g : pG} {σ : pI} {τ : pJ} {cu su mc ms mc' ms' : Nat} {E : pE}
theorem pm_callV {idx i ci : Nat} {vs stk : List pV} {T : u_T} {N : Nat} {wr : Bool} {Q : Option Int32 → pI → pJ → Prop} (hB : pm_base b) (hd : decode k.2.1 pc = .ok (.invokevirtual idx, 3)) (hc : pm_CV k.1.cls idx k' vs.length)
    (hC : pm_C b d k' (pm_R i :: vs) g σ τ mc' ms' (.inl (wr, Q))) (hs : g.2.1 i = (0, ci)) (hi : i < g.1) (hcl : pm_cl[ci]? = some (k'.1.cls, T, N))
    (hstk : stk = vs.reverse ++ pm_R i :: rest) (h1 : vs.all pm_one = true) (hj : vs.all pm_nj = true) (hn : vs.length + 1 ≤ k'.2.2.1) (hw : (rest.map pm_wt).sum ≤ 8) (hcu : cu + mc' ≤ mc) (hsu : su + ms' ≤ ms)
    (hK : ∀ (v : Option Int32) (σ' : pI) (τ' : pJ), v.isSome = k'.2.2.2.1.isSome → Q v σ' τ' → pm_Y b (d + 1) k (pc + 3) (f || wr) lo (v.toList.map pm_I ++ rest) g σ' τ' (cu + mc') (su + ms') mc ms E) :
    pm_Y b (d + 1) k pc f lo stk g σ τ cu su mc ms E := by
  intro p e R s m args below meth c H locs ls ad jk hF hR hI hL
  obtain ⟨c1, c2, c3, c4, c5, c6⟩ := hc
  have hM := pm_met (ad := ad) hB c5 hC (by rw [List.all_cons, h1]; rfl) (by rw [List.length_cons]; exact hn) (Qc := pm_Qr b k' ad g Q) (free := fun q => wr = true ∧ pm_A b q) (fun _ _ _ => rfl)
  have hmap : vs.map (pm_v ad b.2.2.2.2.2.1 jk) = vs.map (pm_v ad b.2.2.2.2.2.1 0) := pm_nj_map hj
  have hmc := hR.2.2.1
  have hms := hR.2.2.2
  refine pm_after (k' := k') (rest := rest) (va_runV (Ts := pm_words) (own := k.1.cls) (C := k'.1.cls) (n := vs.length) (b := ad i) (As := vs.map (pm_v ad b.2.2.2.2.2.1 jk)) ⟨hF.1, hF.2.1, hF.2.2.1, hF.own, hF.ws⟩ hM ⟨pm_callB hF hR c1 c4 c5 c6, hF.ws _ c2, hF.ws _ c3⟩ ⟨pm_blind, pm_cellAt hF hI.1 hs hi hcl, fun U hU hW => pm_pre hF hI hU hW (by rw [List.map_cons, hmap]; rfl)⟩ rfl (by rw [List.length_map]) hL.1 (by rw [hstk, List.map_append, List.map_reverse, List.map_cons]; rfl) (lv_room (by rw [pm_v_sum]; exact hw)) hd ⟨by omega, by omega⟩) hF hR hI hL hK
end PMV
end
section
/-! throwing: new, dup, <init>, athrow; out of a caller; into a handler -/
abbrev pm_names : List String := ["java/lang/RuntimeException", "java/lang/Exception"]
def pm_isr1 : Cond := .isRef (.static Bundle.tN "UNASSIGNED_STACK" Bundle.steD)
def pm_isr2 : Cond := .isRef (.static Bundle.tN "SUPPRESSED_SENTINEL" Bundle.listD)
def pm_ls1 : Cond := .laysStatic Bundle.tN "UNASSIGNED_STACK" Bundle.steD
def pm_ls2 : Cond := .laysStatic Bundle.tN "SUPPRESSED_SENTINEL" Bundle.listD
def pm_hw : List Cond := [pm_isr1, pm_isr2, pm_ls1, pm_ls2]
def pm_XW (own : String) (idx ic : Nat) (X : String) : Prop := Cond.classLink own idx X ∈ pm_words ∧ Cond.instantiable X 6 ∈ pm_words ∧ Cond.initialized X ∈ pm_words ∧ Bundle.fit X = true ∧ ∀ a ∈ Bundle.ownAtoms0 own ic X pm_names, a ∈ pm_words ∨ a ∈ pm_hw
/-- what a throw wants of the first state: no traces, and Throwable's two statics -/
def pm_baseX (b : pB) : Prop := (∀ e : Env, b.1.admits e → e.platform.stackTraces = false) ∧ ∀ (s : State) (args : Array Value), b.2.1.WarmedH s.vm → va_S (pm_A b) b.2.1.heap s.heap [] → ∀ w ∈ pm_hw, w.before args s = true
section PMT
variable {b : pB} {d : Nat} {k k' : pK} {pc : Nat} {f : Bool} {lo : List (Option pV)} {st rest : List pV} {g : pG} {σ : pI} {τ : pJ} {cu su mc ms mc' ms' : Nat} {E : pE}
theorem pm_throw {idx ic : Nat} {X : String} (hX : pm_baseX b) (hd0 : decode k.2.1 pc = .ok (.new idx, 3)) (hd3 : decode k.2.1 (pc + 3) = .ok (.dup, 1)) (hd4 : decode k.2.1 (pc + 4) = .ok (.invokespecial ic, 3)) (hd7 : decode k.2.1 (pc + 7) = .ok (.athrow, 1))
    (hw : pm_XW k.1.cls idx ic X) (hx : k.2.2.2.2 = []) (hst : (st.map pm_wt).sum ≤ 8) (hc : cu + 1 ≤ mc) (hs : su + 6 ≤ ms) : pm_Y b d k pc false lo st g σ τ cu su mc ms (.inr (.inl X)) := by
  intro p e R s m args below meth c H locs ls ad jk hF hR hI hL T0 hT0 X0
  have hlocs : locs = [] := hI.2.2.2 rfl
  subst hlocs
  have hle : s.heap.size ≤ H.size := by
    have h : s.heap.size ≤ (T0.setVm s.vm).heap.size := X0.same.2.1
    rw [← hT0]
    exact h
  obtain ⟨w1, w2, w3, w4, w5⟩ := hw
  have hR1 := hR.1
  have hR2 := hR.2.1
  have hR3 := hR.2.2.1
  have hR4 := hR.2.2.2
  refine (W.newc (Q := pm_end b k (.inr (.inl X)) ad g below args s mc ms) (g := F0 m pc ls (st.map (pm_v ad b.2.2.2.2.2.1 jk))) hF.1 hF.2.1 hF.own (hF.ws _ w1) (hF.ws _ w2) (hF.ws _ w3) rfl hd0 (by omega) (by omega) fun cC kC e1 e2 e3 e4 => ?_) T0 hT0 X0
  refine W.eq (g2 := F0 m (pc + 3) ls (.ref H.size :: st.map (pm_v ad b.2.2.2.2.2.1 jk))) rfl ?_
  refine lv_dup hF.1 hF.2.1 hd3 rfl ?_
  intro T hT X1
  have hlocks := hF.locks
  have hsr := hX.2 s args hF.warm hF.S
  have hxe : ∀ x ∈ c.exceptionTable.toList, covers x (pc + 4 + 3) = false := by
    have h := hF.xt
    rw [hx, List.map_eq_nil_iff] at h
    rw [h]
    intro x hx
    cases hx
  obtain ⟨U, hsteps, hrun, hend, hW, hsame, ce, hce, K⟩ := X1.ctorThrow0 hF.1 (hX.1 e hF.adm) (own := k.1.cls) (cls := X) (names := pm_names) (ic := ic) hF.own w4 (by decide +kernel)
    (fun a ha => by
      rcases w5 a ha with h | h
      · exact hF.ws a h
      · exact hsr a h)
    (fun x hx => by cases hx) e1 e2 (a := H.size) (by rw [hT]; simp [freshCell]) hle (g := F0 m (pc + 4) ls (.ref H.size :: .ref H.size :: st.map (pm_v ad b.2.2.2.2.2.1 jk))) rfl (hL.1.trans hF.2.2.1.symm) rfl rfl (rest := st.map (pm_v ad b.2.2.2.2.2.1 jk)) rfl
    (by rw [hF.2.1]; exact hd4) (by rw [hF.2.1]; exact hd7) hxe (by show 2 + 3 < R.frames; omega)
    (by
      rw [List.map_cons, List.sum_cons, pm_v_sum]
      show 2 * 0 + (1 + (st.map pm_wt).sum) + (13 * (2 + 1) + 41) ≤ R.locals
      omega)
  exact ⟨U, hsteps, .threw H.size, hrun, hend, H.size, rfl, hW, hsame.mono hc hs, hle, ce, hce, by rw [K.vm]; rfl, K.cls⟩
end PMT
section PMU
variable {b : pB} {d : Nat} {k k' : pK} {pc : Nat} {f : Bool} {lo : List (Option pV)} {st rest : List pV} {g : pG} {σ : pI} {τ : pJ} {cu su mc ms mc' ms' : Nat} {E : pE}
variable {p : Program} {e : Env} {R : Room} {s : State} {m : MethodId} {args : Array Value} {below : List Frame} {meth : Method} {c : Code} {H : Heap} {locs : List Loc} {ls : Array Slot} {ad : Nat → Nat} {jk : Nat}
theorem pm_thrown {idx i ci : Nat} {vs stk : List pV} {Tt : u_T} {N : Nat} {X : String} (hB : pm_base b) (hd : decode k.2.1 pc = .ok (.invokevirtual idx, 3)) (hc : pm_CV k.1.cls idx k' vs.length)
    (hC : pm_C b d k' (pm_R i :: vs) g σ τ mc' ms' (.inr (.inl X))) (hs : g.2.1 i = (0, ci)) (hi : i < g.1) (hcl : pm_cl[ci]? = some (k'.1.cls, Tt, N))
    (hstk : stk = vs.reverse ++ pm_R i :: rest) (h1 : vs.all pm_one = true) (hj : vs.all pm_nj = true) (hn : vs.length + 1 ≤ k'.2.2.1) (hw : (rest.map pm_wt).sum ≤ 8) (hcu : cu + mc' ≤ mc) (hsu : su + ms' ≤ ms)
    (hF : pm_fr b k p e s m args meth c) (hR : pm_room (d + 1) mc ms R) (hI : pm_inv b ad f g σ τ H locs) (hL : pm_lo b ad jk k.2.2.1 lo ls) {T : State} (hT : T.heap = H) (X0 : Stand p b.1 e R s m args below meth c T locs cu su) :
    ∃ (a : Nat) (T' : State), Stand p b.1 e R s m args below meth c T' locs (cu + mc') (su + ms') ∧ (∀ (q : Nat) (cell : Cell), H[q]? = some cell → T'.heap[q]? = some cell) ∧ H.size ≤ T'.heap.size ∧
      (H.size ≤ a ∧ ∃ ce : Cell, T'.heap[a]? = some ce ∧ ce.vm.isStatics = false ∧ s.vm.findClass X = some ce.cls) ∧
      ∀ target, Steps p.tables e below ((T'.setTop (F0 m pc ls (rest.map (pm_v ad b.2.2.2.2.2.1 jk)))).pushFrame (.throwing a)) target → Steps p.tables e below (T.setTop (F0 m pc ls (stk.map (pm_v ad b.2.2.2.2.2.1 jk)))) target := by
  obtain ⟨c1, c2, c3, c4, c5, c6⟩ := hc
  have hM := pm_metT (ad := ad) hB c5 hC (by rw [List.all_cons, h1]; rfl) (by rw [List.length_cons]; exact hn)
  have hmap : vs.map (pm_v ad b.2.2.2.2.2.1 jk) = vs.map (pm_v ad b.2.2.2.2.2.1 0) := pm_nj_map hj
  have hmc := hR.2.2.1
  have hms := hR.2.2.2
  have hR1 := hR.1
  have hR2 := hR.2.1
  have hk2 := c5.2.1
  have hwd : pm_word k' = .code k'.1 k'.2.1 k'.2.2.1 k'.2.2.2.1 := by unfold pm_word; rw [c6]
  have hcode : (Cond.code k'.1 k'.2.1 k'.2.2.1 k'.2.2.2.1).before args s = true := by rw [← hwd]; exact hF.ws _ c5.2.2.1
  obtain ⟨mk, methM, hnamed, hmethM, hstM, habM⟩ := Cond.instanceMethod_spec (hF.ws _ c2)
  obtain ⟨methM', cM, hmethM', hcM, -, hlM, -, -, -, hsigM⟩ := Cond.code_spec hnamed hcode
  cases hmethM.symm.trans hmethM'
  obtain ⟨c2', r2, m2, q1, q2, q3, q4, kP, hkP, hkPi⟩ := Cond.selects_spec (hF.ws _ c3)
  obtain ⟨cellB, hcB, hoB, hclB⟩ := pm_cellAt hF hI.1 hs hi hcl
  cases hclB.symm.trans q1
  cases (State.methodFound?_of_named hnamed c5.2.2.2.2).symm.trans q2
  cases hnamed.symm.trans q3
  have hselP : selectMethod e.platform s.vm cellB.cls mk = .method mk := by rw [Launch.admits_selectMethod X0.admits]; exact q4
  have hlen : (vs.map (pm_v ad b.2.2.2.2.2.1 jk)).length = methM.sig.parameters.length := by
    rw [List.length_map]
    rw [hsigM] at c4
    exact (Option.some.inj c4).symm
  have hdc : decode c.code (F0 m pc ls (stk.map (pm_v ad b.2.2.2.2.2.1 jk))).pc = .ok (.invokevirtual idx, 3) := by rw [hF.2.1]; exact hd
  obtain ⟨vm₁, X₁, hstep₁⟩ := X0.invokevirtual hF.1 hF.own (hF.ws _ c1) hnamed hmethM hstM hkP hkPi c5.2.2.2.2 (a := ad i) (cell := cellB) (by rw [hT]; exact hcB)
    (fun z h => by rw [h] at hoB; cases hoB) hselP hmethM habM hkP hkPi (g := F0 m pc ls (stk.map (pm_v ad b.2.2.2.2.2.1 jk))) rfl (argsL := vs.map (pm_v ad b.2.2.2.2.2.1 jk)) (rest := rest.map (pm_v ad b.2.2.2.2.2.1 jk)) hlen (by rw [hstk, List.map_append, List.map_reverse, List.map_cons]; rfl) hdc
  have hnamed₁ := X₁.named hnamed
  obtain ⟨kY, hkY, -⟩ := className_of_methodNamed hnamed₁
  have hwords : ∀ w ∈ pm_words, ∀ a' : Array Value, w.before a' (T.setVm vm₁) = true := fun w hw' a' => pm_at X₁.warmed (pm_good w hw') (hF.ws w hw')
  have hinitY : kY.init = .initialized := Cond.initialized_spec (args := #[]) (findClass_of_methodNamed hnamed₁) hkY (hwords _ c5.2.2.2.1 #[])
  obtain ⟨methY, cY, hmY, hcY, -, hlY, -, -, -, -⟩ := Cond.code_spec (args := #[]) hnamed₁ (by rw [← hwd]; exact hwords _ c5.2.2.1 #[])
  have hgen : ∃ gg, gg = F0 m pc ls (rest.map (pm_v ad b.2.2.2.2.2.1 jk)) := ⟨_, rfl⟩
  obtain ⟨gg, hgg⟩ := hgen
  have hav : ∃ av, av = (Value.ref (ad i) :: vs.map (pm_v ad b.2.2.2.2.2.1 jk)).toArray := ⟨_, rfl⟩
  obtain ⟨av, hav⟩ := hav
  have hgm : gg.method = m := by rw [hgg]
  have hAt : At (T.setVm vm₁) gg.method c below := by rw [hgm]; exact X₁.here
  have happ : (headSpec [pm_word k'] (pm_rm d mc' ms')).appliesLoose k'.1 e.platform ((T.setVm vm₁).calling gg mk av) = true := by
    refine Spec.appliesLoose_calling (g := gg) hAt (ig := .invokevirtual idx) (len := 3) (by rw [hgg, hF.2.1]; exact hd) hnamed₁ hkY hinitY
      (X₁.room_calling (g := gg) (R' := pm_rm d mc' ms') (by rw [hgg]; exact hL.1.trans hF.2.2.1.symm) hmY hcY (by show d + 7 + 1 ≤ R.frames; omega) ?_ (by show cu + mc' ≤ R.cells; omega) (by show su + ms' ≤ R.slots; omega)) ?_
    · rw [hlY, hgg]
      show 2 * 0 + ((rest.map (pm_v ad b.2.2.2.2.2.1 jk)).map fun v => v.category).sum + (k'.2.2.1 + 11) + (64 * d + 120) ≤ R.locals
      rw [pm_v_sum]
      omega
    · exact atoms_intro fun w hw' => by
        rw [List.mem_singleton] at hw'
        subst hw'
        exact hwords _ c5.2.2.1 _
  obtain ⟨mid, hmid⟩ := hAt.above
  have hfr : ((T.setVm vm₁).setTop gg).frames = (.java gg :: mid) ++ below := by rw [State.frames_setTop' gg hAt.top, hmid]; rfl
  have hPre : pm_Pc b ad (pm_R i :: vs) g σ τ av ((T.setVm vm₁).calling gg mk av) := by
    rw [hav]
    exact pm_blind _ _ _ _ (pm_pre (vs := pm_R i :: vs) hF hI (U := T.setVm vm₁) hT X₁.warmed (by rw [List.map_cons, hmap]; rfl))
  obtain ⟨o, s₂, hsteps, -, hend, hq⟩ := Steps.callFree hM p X₁.admits X₁.cas X₁.clock (acts := []) hfr happ hPre trivial
  have hq' : pm_Qt X mc' ms' av ((T.setVm vm₁).calling gg mk av) o s₂ := hq
  rw [State.frames_setTop' gg hAt.top] at hend
  obtain ⟨a, rfl, hW₂, ⟨e2, q2, q3, q4', q5, q6⟩, hxa, ce, hce1, hce2, hce3⟩ := hq'
  have hf₂ : s₂.frames = .throwing a :: .java gg :: (T.setVm vm₁).frames.tail := hend
  have e3 : s₂ = ({ ((T.setVm vm₁).calling gg mk av).setFrames s₂.frames with heap := s₂.heap, slotsUsed := s₂.slotsUsed } : State).setVm s₂.vm := by
    have h : s₂ = ({ s₂ with vm := ((T.setVm vm₁).calling gg mk av).vm } : State).setVm s₂.vm := rfl
    rw [e2] at h
    exact h
  have hW' : (T.setVm vm₁).WarmedH s₂.vm := hW₂
  obtain ⟨g₀, hg0⟩ := Option.isSome_iff_exists.mp hAt.top
  obtain ⟨r, hr⟩ := State.topJava?_eq_some.mp hg0
  have hs₂ : s₂ = ((({ T.setVm vm₁ with heap := s₂.heap, slotsUsed := s₂.slotsUsed } : State).setVm s₂.vm).setTop gg).pushFrame (.throwing a) := by
    have hr' : (({ T.setVm vm₁ with heap := s₂.heap, slotsUsed := s₂.slotsUsed } : State).setVm s₂.vm).frames = .java g₀ :: r := hr
    refine e3.trans ?_
    rw [hf₂, State.calling_eq hAt.top, State.setFrames_setFrames, State.pushFrame, State.frames_setTop _ hr', State.setTop_of_frames _ hr', State.setFrames_setFrames, hr]
    rfl
  have hsame : (T.setVm vm₁).sameButNew ({ T.setVm vm₁ with heap := s₂.heap, slotsUsed := s₂.slotsUsed } : State) [] mc' ms' := by
    refine ⟨?_, q2, q3, q4', q5, q6⟩
    obtain ⟨t, ht, -⟩ := State.frames_cons hr
    show ({ T.setVm vm₁ with heap := s₂.heap, slotsUsed := s₂.slotsUsed } : State) = { (T.setVm vm₁).setFrames (T.setVm vm₁).frames with heap := s₂.heap, slotsUsed := s₂.slotsUsed }
    rw [State.setFrames_self ht]
  have hX' : Stand p b.1 e R s m args below meth c (({ T.setVm vm₁ with heap := s₂.heap, slotsUsed := s₂.slotsUsed } : State).setVm s₂.vm) (locs ++ []) (cu + mc') (su + ms') :=
    ⟨X₁.admits, X₁.cas, X₁.clock, X₁.frames, X₁.room, X₁.hears, X₁.method, X₁.code, (X₁.here.setHeapUsed s₂.heap s₂.slotsUsed).setVm hW'.alike, X₁.tail, State.WarmedH.trans X₁.warmed hW', X₁.limits, X₁.bytes, X₁.same.trans (hsame.setVm s.vm)⟩
  rw [List.append_nil] at hX'
  refine ⟨a, _, hX', fun q cell hcell => ?_, ?_, ⟨?_, ce, hce1, hce2, ?_⟩, fun target h => ?_⟩
  · have hcell' : ((T.setVm vm₁).calling gg mk av).heap[q]? = some cell := by
      show T.heap[q]? = some cell
      rw [hT]; exact hcell
    obtain ⟨c', h1', h2', h3', h4'⟩ := q6 q cell hcell'
    have : c' = cell := by
      rw [h2']
      have hsl : c'.slots = cell.slots := by
        apply Array.ext_getElem?
        intro j
        exact h4' j (fun z => by cases z)
      rw [hsl]
    rw [← this]
    exact h1'
  · have h : T.heap.size ≤ s₂.heap.size := q2
    rw [← hT]
    exact h
  · have h : T.heap.size ≤ a := hxa
    rw [← hT]
    exact h
  · have h : (T.setVm vm₁).vm.findClass X = some ce.cls := hce3
    rw [X₁.warmed.alike.findClass] at h
    exact h
  · refine hstep₁ target fun acts => ?_
    rw [doInvoke_state]
    refine Steps.trans ?_ (show Steps p.tables e below ((((({ T.setVm vm₁ with heap := s₂.heap, slotsUsed := s₂.slotsUsed } : State).setVm s₂.vm)).setTop gg).pushFrame (.throwing a)) target by rw [hgg]; exact h)
    rw [← hs₂]
    have hsteps' := hsteps
    rw [hgg, hav] at hsteps'
    exact hsteps'
theorem pm_P_keep {H' : Heap} (hP : pm_P b ad g σ τ H) (hk : ∀ (q : Nat) (cell : Cell), H[q]? = some cell → H'[q]? = some cell) : pm_P b ad g σ τ H' := by
  intro i q hq
  have h := hP i q hq
  obtain ⟨a, x⟩ := q
  cases x with
  | inl y => exact hk _ _ h
  | inr y =>
    obtain ⟨r, h1, cell, h2, h3⟩ := h
    exact ⟨r, h1, cell, hk _ _ h2, h3⟩
theorem pm_S_keep {A : Nat → Prop} {H0 H' : Heap} (hS : va_S A H0 H locs) (hk : ∀ (q : Nat) (cell : Cell), H[q]? = some cell → H'[q]? = some cell) (hz : H.size ≤ H'.size) : va_S A H0 H' locs := by
  refine ⟨Nat.le_trans hS.1 hz, fun q h1 h2 => ?_, hS.2.2⟩
  have h3 := hS.2.1 q h1 h2
  have h4 : q < H.size := Nat.lt_of_lt_of_le h1 hS.1
  rw [← h3, hk q H[q] (Array.getElem?_eq_getElem h4), Array.getElem?_eq_getElem h4]
end PMU
section PMW
variable {b : pB} {d : Nat} {k k' : pK} {pc : Nat} {lo : List (Option pV)} {st rest : List pV} {g : pG} {σ : pI} {τ : pJ} {cu su mc ms mc' ms' : Nat} {E : pE}
/-- a callee throws, no handler here: so does the caller -/
theorem pm_callVT {idx i ci : Nat} {vs stk : List pV} {Tt : u_T} {N : Nat} {X : String} (hB : pm_base b) (hd : decode k.2.1 pc = .ok (.invokevirtual idx, 3)) (hc : pm_CV k.1.cls idx k' vs.length)
    (hC : pm_C b d k' (pm_R i :: vs) g σ τ mc' ms' (.inr (.inl X))) (hs : g.2.1 i = (0, ci)) (hi : i < g.1) (hcl : pm_cl[ci]? = some (k'.1.cls, Tt, N)) (hx : k.2.2.2.2 = [])
    (hstk : stk = vs.reverse ++ pm_R i :: rest) (h1 : vs.all pm_one = true) (hj : vs.all pm_nj = true) (hn : vs.length + 1 ≤ k'.2.2.1) (hw : (rest.map pm_wt).sum ≤ 8) (hcu : cu + mc' ≤ mc) (hsu : su + ms' ≤ ms) :
    pm_Y b (d + 1) k pc false lo stk g σ τ cu su mc ms (.inr (.inl X)) := by
  intro p e R s m args below meth c H locs ls ad jk hF hR hI hL T hT X0
  have hlocs : locs = [] := hI.2.2.2 rfl
  subst hlocs
  obtain ⟨a, T', X', hk, hz, ⟨ha, ce, hce1, hce2, hce3⟩, hst⟩ := pm_thrown hB hd hc hC hs hi hcl hstk h1 hj hn hw hcu hsu hF hR hI hL hT X0
  have hlocks := hF.locks
  have hxe : ∀ x ∈ c.exceptionTable.toList, covers x pc = false := by
    have h := hF.xt
    rw [hx, List.map_eq_nil_iff] at h
    rw [h]
    intro x hx
    cases hx
  obtain ⟨l1, l2, l3, l4, l5⟩ := X'.leaveThrown a (g := F0 m pc ls (rest.map (pm_v ad b.2.2.2.2.2.1 jk))) rfl rfl rfl hxe
  have hle : s.heap.size ≤ H.size := by
    have h : s.heap.size ≤ (T.setVm s.vm).heap.size := X0.same.2.1
    rw [← hT]
    exact h
  exact ⟨_, hst _ l1, .threw a, l2, l3, a, rfl, l4, l5.mono hcu hsu, Nat.le_trans hle ha, ce, hce1, hce2, hce3⟩
end PMW
end
section
/-! new cells -/
def pm_lt (n : Nat) : pV → Bool
  | .inr (.inr (.inl i)) => decide (i < n)
  | _ => true
def pm_lto (n : Nat) : Option pV → Bool
  | none => true
  | some v => pm_lt n v
theorem pm_lt_eq {ad ad' : Nat → Nat} {sc jk n : Nat} (h : ∀ i, i < n → ad' i = ad i) {v : pV} (hv : pm_lt n v = true) : pm_v ad' sc jk v = pm_v ad sc jk v := by
  rcases v with x | x | x | x
  · rfl
  · rfl
  · have hx : x < n := of_decide_eq_true hv
    show Value.ref (ad' x) = Value.ref (ad x)
    rw [h x hx]
  · cases x <;> rfl
theorem pm_lt_map {ad ad' : Nat → Nat} {sc jk n : Nat} (h : ∀ i, i < n → ad' i = ad i) {st : List pV} (hv : st.all (pm_lt n) = true) : st.map (pm_v ad' sc jk) = st.map (pm_v ad sc jk) := by
  rw [List.all_eq_true] at hv
  exact List.map_congr_left fun v hm => pm_lt_eq h (hv v hm)
theorem pm_lt_lo {b : pB} {ad ad' : Nat → Nat} {jk n nL : Nat} (h : ∀ i, i < n → ad' i = ad i) {lo : List (Option pV)} {ls : Array Slot} (hv : lo.all (pm_lto n) = true) (hL : pm_lo b ad jk nL lo ls) : pm_lo b ad' jk nL lo ls := by
  refine ⟨hL.1, hL.2.1, fun i v hi => ?_⟩
  rw [List.all_eq_true] at hv
  have := hv _ (List.mem_of_getElem? hi)
  rw [pm_lt_eq h this]
  exact hL.2.2 i v hi
theorem pm_Wmono {p : Program} {l : Launch} {e : Env} {R : Room} {s : State} {m : MethodId} {args : Array Value} {below : List Frame} {meth : Method} {c : Code} {H : Heap} {locs : List Loc} {cells slots : Nat} {Q Q' : State → Prop} {g : JFrame} (h : ∀ t, Q t → Q' t) (w : W p l e R s m args below meth c H locs cells slots Q g) : W p l e R s m args below meth c H locs cells slots Q' g := by
  intro T hT X
  obtain ⟨t, a, q⟩ := w T hT X
  exact ⟨t, a, h t q⟩
theorem pm_end_mono {b : pB} {k : pK} {Q : pG → pI → pJ → Prop} {ad ad' : Nat → Nat} {g g' : pG} {below : List Frame} {args : Array Value} {s : State} {mc ms : Nat} (h1 : g.1 ≤ g'.1) (h2 : ∀ i, i < g.1 → ad' i = ad i) (t : State)
    (h : pm_end b k (.inr (.inr Q)) ad' g' below args s mc ms t) : pm_end b k (.inr (.inr Q)) ad g below args s mc ms t := by
  obtain ⟨o, h3, h4, ⟨ad2, g2, σ, τ, q1, q2, q3, q4, q5⟩, h6⟩ := h
  exact ⟨o, h3, h4, ⟨ad2, g2, σ, τ, q1, q2, Nat.le_trans h1 q3, fun i hi => (q4 i (Nat.lt_of_lt_of_le hi h1)).trans (h2 i hi), q5⟩, h6⟩
/-- the references of the cells that are there -/
def pm_wf (g : pG) : Prop := ∀ i j r, i < g.1 → g.2.2 i j = some r → r < g.1
theorem pm_ct_new {b : pB} {ad ad' : Nat → Nat} {g : pG} {n : Nat} {σ : pI} {τ : pJ} {i : Nat} (hw : ∀ j r, g.2.2 i j = some r → ad' r = ad r) : pm_ct b ad' (n, g.2) σ τ i = pm_ct b ad g σ τ i := by
  have hm : ∀ j, (g.2.2 i j).map ad' = (g.2.2 i j).map ad := by
    intro j
    cases h : g.2.2 i j with
    | none => rfl
    | some r => show some (ad' r) = some (ad r); rw [hw j r h]
  unfold pm_ct
  simp only [hm]
theorem pm_ws_push {b : pB} {ad ad' : Nat → Nat} {g : pG} {σ : pI} {τ : pJ} (hw : pm_wf g) (h : ∀ i, i < g.1 → ad' i = ad i) {x : va_E} (hx : x = pm_ct b ad' (g.1 + 1, g.2) σ τ g.1) : pm_ws b ad g σ τ ++ [(ad' g.1, x)] = pm_ws b ad' (g.1 + 1, g.2) σ τ := by
  subst hx
  unfold pm_ws
  show _ = (List.range (g.1 + 1)).map _
  rw [List.range_succ, List.map_append]
  congr 1
  apply List.map_congr_left
  intro i hi
  rw [List.mem_range] at hi
  rw [h i hi, pm_ct_new fun j r hr => h r (hw i j r hi hr)]
theorem pm_D_of {b : pB} {ad : Nat → Nat} {g : pG} {σ : pI} {τ : pJ} (h : va_D (pm_A b) (pm_ws b ad g σ τ)) : pm_D b ad g.1 :=
  ⟨fun i j hi hj e => h.1 i j _ _ (pm_ws_get hi) (pm_ws_get hj) e, fun i hi => h.2 i _ (pm_ws_get hi)⟩
def pm_N (own : String) (idx ci : Nat) : Prop := ∃ (C : String) (T : u_T) (ty0 : Nat → FieldType), pm_cl[ci]? = some (C, T, pm_nf ci) ∧ Cond.classLink own idx C ∈ pm_words ∧ Cond.instantiable C (pm_nf ci) ∈ pm_words ∧ Cond.initialized C ∈ pm_words ∧ (∀ w ∈ u_ws C T (pm_nf ci), w ∈ pm_words) ∧
  (∀ a, a < pm_nf ci → parseFieldDescriptor (T a).2.2.1 = some (ty0 a)) ∧ ∀ a, a < pm_nf ci → defaultValue (ty0 a) = if pm_rf ci a = true then .null else .int 0
section PMN
variable {b : pB} {d : Nat} {k : pK} {pc : Nat} {f : Bool} {lo : List (Option pV)} {st : List pV} {g : pG} {σ : pI} {τ : pJ} {cu su mc ms : Nat} {Q : pG → pI → pJ → Prop}
theorem pm_new {idx ci : Nat} (hd : decode k.2.1 pc = .ok (.new idx, 3)) (hn : pm_N k.1.cls idx ci) (hs : g.2.1 g.1 = (0, ci)) (h0 : ∀ j, σ g.1 j = 0) (hr : ∀ j, g.2.2 g.1 j = none) (hw : pm_wf g) (hlo : lo.all (pm_lto g.1) = true) (hst : st.all (pm_lt g.1) = true) (hcu : cu + 1 ≤ mc) (hsu : su + pm_nf ci ≤ ms)
    (K : pm_Y b d k (pc + 3) f lo (pm_R g.1 :: st) (g.1 + 1, g.2) σ τ (cu + 1) (su + pm_nf ci) mc ms (.inr (.inr Q))) : pm_Y b d k pc f lo st g σ τ cu su mc ms (.inr (.inr Q)) := by
  intro p e R s m args below meth c H locs ls ad jk hF hR hI hL
  obtain ⟨C, T, ty0, n1, n2, n3, n4, n5, n6, n7⟩ := hn
  have hmc := hR.2.2.1
  have hms := hR.2.2.2
  refine va_new (own := k.1.cls) (ci := ci) (fs := (List.range (pm_nf ci)).map fun j => if pm_rf ci j = true then Value.null else Value.int 0) (C := C) (T := T) (N := pm_nf ci) hF.1 hF.2.1 hF.ws n5 ty0 n6 hF.own (hF.ws _ n2) (hF.ws _ n3) (hF.ws _ n4) hF.K hI.1 hI.2.1.to hI.2.2.1 (fun q h => h) n1 (fun j hj => ?_) (by omega) (by omega) hd (fun q H1 hP hD hS => ?_)
  · rw [n7 j hj]
    unfold vp_V
    rw [List.getD_eq_getElem?_getD, List.getElem?_map, List.getElem?_range hj]
    rfl
  · have ha : ∀ i, i < g.1 → va_up ad g.1 q i = ad i := fun i hi => if_neg (Nat.ne_of_lt hi)
    have hq : va_up ad g.1 q g.1 = q := if_pos rfl
    have hpush := pm_ws_push (b := b) (σ := σ) (τ := τ) (ad' := va_up ad g.1 q) hw ha (x := .inr (ci, (List.range (pm_nf ci)).map fun j => if pm_rf ci j = true then Value.null else Value.int 0)) (by
      rw [pm_ct_o (g := (g.1 + 1, g.2)) hs]
      congr 2
      apply List.map_congr_left
      intro j _
      show _ = if pm_rf ci j = true then va_rf ((g.2.2 g.1 j).map (va_up ad g.1 q)) else Value.int (σ g.1 j)
      rw [hr j, h0 j]
      rfl)
    rw [hq] at hpush
    rw [hpush] at hP hD
    have w := K p e R s m args below meth c H1 locs ls (va_up ad g.1 q) jk hF hR ⟨hP, pm_D_of (g := (g.1 + 1, g.2)) hD, hS, hI.2.2.2⟩ (pm_lt_lo ha hlo hL)
    rw [List.map_cons, pm_lt_map ha hst] at w
    have hq2 : pm_v (va_up ad g.1 q) b.2.2.2.2.2.1 jk (pm_R g.1) = .ref q := by
      show Value.ref (va_up ad g.1 q g.1) = _
      rw [hq]
    rw [hq2] at w
    exact pm_Wmono (fun t h => pm_end_mono (Nat.le_succ _) ha t h) w
theorem pm_newI {n : Nat} {x : Int32} (hd : decode k.2.1 pc = .ok (.newarray .int, 2)) (hwd : Cond.arrayClass .int ∈ pm_words) (hs : g.2.1 g.1 = (1, n)) (hx : x = nI n) (hn : n ≤ 1000) (h0 : ∀ j, σ g.1 j = 0) (hw : pm_wf g) (hlo : lo.all (pm_lto g.1) = true) (hst : st.all (pm_lt g.1) = true) (hcu : cu + 1 ≤ mc) (hsu : su + n ≤ ms)
    (K : pm_Y b d k (pc + 2) f lo (pm_R g.1 :: st) (g.1 + 1, g.2) σ τ (cu + 1) (su + n) mc ms (.inr (.inr Q))) : pm_Y b d k pc f lo (pm_I x :: st) g σ τ cu su mc ms (.inr (.inr Q)) := by
  intro p e R s m args below meth c H locs ls ad jk hF hR hI hL
  have hmc := hR.2.2.1
  have hms := hR.2.2.2
  subst hx
  refine va_newa (atype := .int) (ty := .int) (a0 := (n, .inl fun _ => 0)) (N' := n) hF.1 hF.2.1 (hF.ws _ hwd) rfl hF.K hI.1 hI.2.1.to hI.2.2.1 (fun q h => h) (fun cA => rfl) (nI_pos (by omega)) (nI_clamp (by omega)) (by show n * 4 ≤ 536870912; omega) (by omega) (by omega) hd (fun q cA H1 hK hP hD hS => ?_)
  have hcA : cA = b.2.2.2.2.1.1 := by
    have h1 : s.vm.findClass ("[" ++ FieldType.int.toString) = some cA := (hK.2 3 _ rfl).2
    have h2 : s.vm.findClass ("[" ++ FieldType.int.toString) = some b.2.2.2.2.1.1 := (hF.K.2 0 _ rfl).2
    exact Option.some.inj (h1.symm.trans h2)
  subst hcA
  have ha : ∀ i, i < g.1 → va_up ad g.1 q i = ad i := fun i hi => if_neg (Nat.ne_of_lt hi)
  have hq : va_up ad g.1 q g.1 = q := if_pos rfl
  have hpush := pm_ws_push (b := b) (σ := σ) (τ := τ) (ad' := va_up ad g.1 q) hw ha (x := .inl (b.2.2.2.2.1.1, n, .inl fun _ => 0)) (by
    rw [pm_ct_i (g := (g.1 + 1, g.2)) hs]
    congr 4
    funext j
    exact (h0 j).symm)
  rw [hq] at hpush
  rw [hpush] at hP hD
  have w := K p e R s m args below meth c H1 locs ls (va_up ad g.1 q) jk hF hR ⟨hP, pm_D_of (g := (g.1 + 1, g.2)) hD, hS, hI.2.2.2⟩ (pm_lt_lo ha hlo hL)
  rw [List.map_cons, pm_lt_map ha hst] at w
  have hq2 : pm_v (va_up ad g.1 q) b.2.2.2.2.2.1 jk (pm_R g.1) = .ref q := by
    show Value.ref (va_up ad g.1 q g.1) = _
    rw [hq]
  rw [hq2] at w
  exact pm_Wmono (fun t h => pm_end_mono (Nat.le_succ _) ha t h) w
end PMN
end
section
/-! into a handler -/
theorem pm_go {e : Env} {s : State} {f : JFrame} {a : Addr} {x : ExceptionTableEntry} {t : List ExceptionTableEntry} {c : ClassId} {cell : Cell} {vm' : Vm} (hx : covers x f.pc = true) (h0 : x.catchType ≠ 0)
    (hg : (Jvm.resolveClass f.method.cls x.catchType).Gives e.toSetting s.vm (.ok c) vm') (hsz : vm'.classes.size ≤ s.vm.classes.size) (hcell : s.heap[a]? = some cell) (hobj : ∀ k, cell.vm ≠ .statics k)
    (hk : ∃ k, vm'.classes[cell.cls]? = some k) (hc : ∃ k, vm'.classes[c]? = some k) (Q : Handler → Pre) (E : CtlPost) (d : Bool) (acts : List Action) :
    wp (findHandler.go f a (x :: t)) Q E e d acts s ↔ if vm'.assignable cell.cls c = true then Q (.found x.handlerPc) d acts (s.setVm vm') else wp (findHandler.go f a t) Q E e d acts (s.setVm vm') := by
  simp only [covers] at hx
  obtain ⟨ha, ht⟩ := hg.op (op := VmOp.resolveClass f.method.cls x.catchType) rfl
  cases hfit : vm'.assignable cell.cls c <;>
    simp [findHandler.go, hx, h0, ha, ht, hsz, hcell, hobj, hk, hc, hfit, VmOp.dirties, VmOp.acts]
/-- the first handler for an object of the type X -/
def pm_pick (X : String) : List (Nat × String) → Option Nat
  | [] => none
  | (h, Y) :: t => if X = Y then some h else pm_pick X t
def pm_no (X Y : String) : Prop := (X, Y) ∈ [("java/lang/IllegalArgumentException", "java/lang/IndexOutOfBoundsException"), ("java/lang/IllegalStateException", "java/lang/IndexOutOfBoundsException"), ("java/lang/IllegalStateException", "java/lang/IllegalArgumentException")]
theorem pm_finds {p : Program} {l : Launch} {e : Env} {R : Room} {s : State} {m : MethodId} {args : Array Value} {below : List Frame} {meth : Method} {c : Code} {T : State} {locs : List Loc} {cells slots : Nat}
    (X0 : Stand p l e R s m args below meth c T locs cells slots) {own X : String} (hown : s.vm.findClass own = some m.cls) {f : JFrame} (hf : f.method = m) {a : Addr} {cell : Cell} (hobj : ∀ k, cell.vm ≠ .statics k) (hcls : s.vm.findClass X = some cell.cls) {kx : Class} (hkx : s.vm.classes[cell.cls]? = some kx)
    (hasg : ∀ (Y : String) (cY : ClassId), s.vm.findClass Y = some cY → (Y = X ∨ pm_no X Y) → s.vm.assignable cell.cls cY = decide (X = Y)) :
    ∀ (xs : List ExceptionTableEntry) (ys : List String) (vm₁ : Vm) (h : Nat), s.WarmedH vm₁ → xs.length = ys.length → (∀ (i : Nat) (x : ExceptionTableEntry) (Y : String), xs[i]? = some x → ys[i]? = some Y → covers x f.pc = true ∧ x.catchType ≠ 0 ∧ (Cond.classLink own x.catchType Y).before args s = true ∧ (Y = X ∨ pm_no X Y)) →
      pm_pick X ((xs.map fun x => x.handlerPc).zip ys) = some h →
      ∃ vm₂ : Vm, s.WarmedH vm₂ ∧ ∀ (Z : State), Z.vm = vm₁ → Z.heap[a]? = some cell → ∀ (Q : Handler → Pre) (E : CtlPost) (d : Bool) (acts : List Action), wp (findHandler.go f a xs) Q E e d acts Z ↔ Q (.found h) d acts (Z.setVm vm₂)
  | [], ys, vm₁, h, hW, hl, hx, hp => by
    simp [pm_pick] at hp
  | x :: xs, [], vm₁, h, hW, hl, hx, hp => by
    simp at hl
  | x :: xs, Y :: ys, vm₁, h, hW, hl, hx, hp => by
    obtain ⟨h1, h2, h3, h4⟩ := hx 0 x Y rfl rfl
    have hpl : e.platform.magicAccessors = ({} : Platform).magicAccessors := by rw [X0.admits.platform]
    obtain ⟨cY, hcY, hcl⟩ := Cond.classLink_spec hown h3 e.platform hpl
    obtain ⟨dk, _, _, kt, hd, _, _, _, _, hkt, _, hopen⟩ := hcl.here
    have hcl₀ := hW.classLinks hcl
    have hW' : s.WarmedH (vm₁.noted m.cls x.catchType (.cls cY)) := hW.noted hd hopen (State.rightAt_cls hcl)
    obtain ⟨ks', hks', -⟩ := hW'.alike.2.2 _ _ hkx
    obtain ⟨kt', hkt', -⟩ := hW'.alike.2.2 _ _ hkt
    have hgo : ∀ (Z : State), Z.vm = vm₁ → Z.heap[a]? = some cell → ∀ (Q : Handler → Pre) (E : CtlPost) (d : Bool) (acts : List Action), wp (findHandler.go f a (x :: xs)) Q E e d acts Z ↔ if (vm₁.noted m.cls x.catchType (.cls cY)).assignable cell.cls cY = true then Q (.found x.handlerPc) d acts (Z.setVm (vm₁.noted m.cls x.catchType (.cls cY))) else wp (findHandler.go f a xs) Q E e d acts (Z.setVm (vm₁.noted m.cls x.catchType (.cls cY))) := by
      intro Z hZ hZc Q E d acts
      refine pm_go h1 h2 ?_ ?_ hZc hobj ⟨_, hks'⟩ ⟨_, hkt'⟩ Q E d acts
      · rw [hZ, hf]
        exact resolveClass_links e.toSetting hcl₀
      · rw [hZ, Vm.size_noted]
        exact Nat.le_refl _
    have ha : (vm₁.noted m.cls x.catchType (.cls cY)).assignable cell.cls cY = decide (X = Y) := by
      rw [hW'.alike.assignable]
      exact hasg Y cY hcY h4
    have hp : (if X = Y then some x.handlerPc else pm_pick X ((xs.map fun x => x.handlerPc).zip ys)) = some h := hp
    by_cases e1 : X = Y
    · rw [if_pos e1] at hp
      cases hp
      refine ⟨_, hW', fun Z hZ hZc Q E d acts => ?_⟩
      rw [hgo Z hZ hZc, ha, decide_eq_true e1, if_pos rfl]
    · rw [if_neg e1] at hp
      obtain ⟨vm₂, g1, g2⟩ := pm_finds X0 hown hf hobj hcls hkx hasg xs ys (vm₁.noted m.cls x.catchType (.cls cY)) h hW' (by simpa using hl) (fun i x' Y' a1 a2 => hx (i + 1) x' Y' (by simpa using a1) (by simpa using a2)) hp
      refine ⟨vm₂, g1, fun Z hZ hZc Q E d acts => ?_⟩
      rw [hgo Z hZ hZc, ha, decide_eq_false e1, if_neg (by decide), g2 (Z.setVm (vm₁.noted m.cls x.catchType (.cls cY))) rfl hZc]
      rfl
theorem pm_caught {p : Program} {l : Launch} {e : Env} {R : Room} {s : State} {m : MethodId} {args : Array Value} {below : List Frame} {meth : Method} {c : Code} {T : State} {locs : List Loc} {cells slots : Nat}
    (X : Stand p l e R s m args below meth c T locs cells slots) (a : Addr) {g : JFrame} (hg : g.method = m) {pc : Nat} {vm' : Vm}
    (hfind : ∀ (Q : Handler → Pre) (E : CtlPost) (d : Bool) (acts : List Action), wp (findHandler g a) Q E e d acts ((T.setTop g).pushFrame (.throwing a)) ↔ Q (.found pc) d acts (((T.setTop g).pushFrame (.throwing a)).setVm vm')) {target : State}
    (hrest : Steps p.tables e below ((T.setVm vm').setTop { g with pc := pc, stack := [.ref a] }) target) : Steps p.tables e below ((T.setTop g).pushFrame (.throwing a)) target := by
  have h : At T g.method c below := by rw [hg]; exact X.here
  obtain ⟨hgo, hw⟩ := h.throwing a
  refine Steps.head hgo hw ?_
  obtain ⟨g₀, hg0⟩ := Option.isSome_iff_exists.mp h.top
  obtain ⟨r, hr⟩ := State.topJava?_eq_some.mp hg0
  rw [stepThread_throwing (frames_entered h.top _)]
  have hstep : (stepThrowing e ((T.setTop g).pushFrame (.throwing a)) a (.java g :: T.frames.tail)).1 = ((((T.setTop g).pushFrame (.throwing a)).setVm vm').setFrames (.java { g with pc := pc, stack := [.ref a] } :: T.frames.tail)) := by
    simp only [stepThrowing, searchFrame, vmDo]
    generalize hr' : Sem.go _ e false [] ((T.setTop g).pushFrame (.throwing a)) = res
    obtain ⟨as, rfl, -⟩ := Sem.eq_ok_of hr' (a := Handler.found pc) (s' := ((T.setTop g).pushFrame (.throwing a)).setVm vm') (acts' := []) (by simp [hfind _ _ _ _])
    rfl
  rw [hstep]
  have hr2 : (T.setVm vm').frames = .java g₀ :: r := hr
  rw [State.setTop_of_frames _ hr2] at hrest
  have he : (((T.setTop g).pushFrame (.throwing a)).setVm vm').setFrames (.java { g with pc := pc, stack := [.ref a] } :: T.frames.tail) = (T.setVm vm').setFrames (.java { g with pc := pc, stack := [.ref a] } :: r) := by
    rw [State.pushFrame, State.setTop_of_frames _ hr, State.setFrames_setFrames, hr]
    show ((T.setFrames _).setVm vm').setFrames _ = _
    have : (T.setFrames (.throwing a :: (T.setFrames (.java g :: r)).frames)).setVm vm' = (T.setVm vm').setFrames (.throwing a :: (T.setFrames (.java g :: r)).frames) := rfl
    rw [this, State.setFrames_setFrames]
    rfl
  rw [he]
  exact hrest
end
section
/-! the same rows, for numbers that are counted, and with names for what is read -/
section PMX
variable {b : pB} {d : Nat} {k : pK} {pc : Nat} {f : Bool} {lo : List (Option pV)} {st : List pV} {g : pG} {σ : pI} {τ : pJ} {cu su mc ms : Nat} {E : pE}
theorem pm_iconst' {z : Int} (v : Int32) (hd : decode k.2.1 pc = .ok (.iconst z, 1)) (hv : Int32.ofInt z = v) (K : pm_Y b d k (pc + 1) f lo (pm_I v :: st) g σ τ cu su mc ms E) : pm_Y b d k pc f lo st g σ τ cu su mc ms E := by
  subst hv
  exact pm_iconst hd K
theorem pm_bipush' {z : Int} (v : Int32) (hd : decode k.2.1 pc = .ok (.bipush z, 2)) (hv : (Int8.ofInt z).toInt32 = v) (K : pm_Y b d k (pc + 2) f lo (pm_I v :: st) g σ τ cu su mc ms E) : pm_Y b d k pc f lo st g σ τ cu su mc ms E := by
  subst hv
  exact pm_bipush hd K
theorem pm_geti' {idx ci j i : Nat} (v : Int32) (hd : decode k.2.1 pc = .ok (.getfield idx, 3)) (hf : pm_F k.1.cls idx ci j) (hs : g.2.1 i = (0, ci)) (hi : i < g.1) (hr : pm_rf ci j = false) (hv : σ i j = v) (K : pm_Y b d k (pc + 3) f lo (pm_I v :: st) g σ τ cu su mc ms E) : pm_Y b d k pc f lo (pm_R i :: st) g σ τ cu su mc ms E := by
  subst hv
  exact pm_geti hd hf hs hi hr K
theorem pm_iaload' {i n : Nat} {x : Int32} (j : Nat) (v : Int32) (hd : decode k.2.1 pc = .ok (.iaload, 1)) (hs : g.2.1 i = (1, n)) (hi : i < g.1) (hx : x = nI j) (hj : j < n) (hn : n < 2 ^ 31) (hv : σ i j = v) (K : pm_Y b d k (pc + 1) f lo (pm_I v :: st) g σ τ cu su mc ms E) : pm_Y b d k pc f lo (pm_I x :: pm_R i :: st) g σ τ cu su mc ms E := by
  subst hv
  exact pm_iaload j hd hs hi hx hj hn K
theorem pm_iaddN {x y : Nat} (hd : decode k.2.1 pc = .ok (.iadd, 1)) (K : pm_Y b d k (pc + 1) f lo (pm_I (nI (x + y)) :: st) g σ τ cu su mc ms E) : pm_Y b d k pc f lo (pm_I (nI y) :: pm_I (nI x) :: st) g σ τ cu su mc ms E := by
  rw [← nI_add] at K
  exact pm_iadd hd K
theorem pm_isubN {x y : Nat} (hd : decode k.2.1 pc = .ok (.isub, 1)) (h : y ≤ x) (K : pm_Y b d k (pc + 1) f lo (pm_I (nI (x - y)) :: st) g σ τ cu su mc ms E) : pm_Y b d k pc f lo (pm_I (nI y) :: pm_I (nI x) :: st) g σ τ cu su mc ms E := by
  rw [← pk_sub h] at K
  exact pm_isub hd K
theorem pm_imulN {x y : Nat} (hd : decode k.2.1 pc = .ok (.imul, 1)) (K : pm_Y b d k (pc + 1) f lo (pm_I (nI (x * y)) :: st) g σ τ cu su mc ms E) : pm_Y b d k pc f lo (pm_I (nI y) :: pm_I (nI x) :: st) g σ τ cu su mc ms E := by
  rw [← pk_mul] at K
  exact pm_imul hd K
theorem pm_iinc' {j : Nat} {z : Int} {x : Int32} (v : Int32) (hd : decode k.2.1 pc = .ok (.iinc j z, 3)) (hn : j < k.2.2.1) (hl : lo[j]? = some (some (pm_I x))) (hv : x + Int32.ofInt z = v) (K : pm_Y b d k (pc + 3) f (lo.set j (some (pm_I v))) st g σ τ cu su mc ms E) : pm_Y b d k pc f lo st g σ τ cu su mc ms E := by
  subst hv
  exact pm_iinc hd hn hl K
theorem pm_icmp_eqN {x y : Nat} {off : Int} (tgt : Nat) (hd : decode k.2.1 pc = .ok (.if_icmp .eq off, 3)) (ht : (pc : Int) + off = (tgt : Int)) (hx : x < 2 ^ 31) (hy : y < 2 ^ 31) (kt : x = y → pm_Y b d k tgt f lo st g σ τ cu su mc ms E) (kf : x ≠ y → pm_Y b d k (pc + 3) f lo st g σ τ cu su mc ms E) : pm_Y b d k pc f lo (pm_I (nI y) :: pm_I (nI x) :: st) g σ τ cu su mc ms E := pm_icmp_eq tgt hd ht (fun h => kt ((nI_eq hx hy).mp h)) (fun h => kf (fun z => h ((nI_eq hx hy).mpr z)))
theorem pm_icmp_neN {x y : Nat} {off : Int} (tgt : Nat) (hd : decode k.2.1 pc = .ok (.if_icmp .ne off, 3)) (ht : (pc : Int) + off = (tgt : Int)) (hx : x < 2 ^ 31) (hy : y < 2 ^ 31) (kt : x ≠ y → pm_Y b d k tgt f lo st g σ τ cu su mc ms E) (kf : x = y → pm_Y b d k (pc + 3) f lo st g σ τ cu su mc ms E) : pm_Y b d k pc f lo (pm_I (nI y) :: pm_I (nI x) :: st) g σ τ cu su mc ms E := pm_icmp_ne tgt hd ht (fun h => kt (fun z => h ((nI_eq hx hy).mpr z))) (fun h => kf ((nI_eq hx hy).mp h))
theorem pm_icmp_ltN {x y : Nat} {off : Int} (tgt : Nat) (hd : decode k.2.1 pc = .ok (.if_icmp .lt off, 3)) (ht : (pc : Int) + off = (tgt : Int)) (hx : x < 2 ^ 31) (hy : y < 2 ^ 31) (kt : x < y → pm_Y b d k tgt f lo st g σ τ cu su mc ms E) (kf : y ≤ x → pm_Y b d k (pc + 3) f lo st g σ τ cu su mc ms E) : pm_Y b d k pc f lo (pm_I (nI y) :: pm_I (nI x) :: st) g σ τ cu su mc ms E := pm_icmp_lt tgt hd ht (fun h => kt ((nI_ltI hx hy).mp h)) (fun h => kf (by have h2 := mt (nI_ltI hx hy).mpr h; omega))
theorem pm_icmp_geN {x y : Nat} {off : Int} (tgt : Nat) (hd : decode k.2.1 pc = .ok (.if_icmp .ge off, 3)) (ht : (pc : Int) + off = (tgt : Int)) (hx : x < 2 ^ 31) (hy : y < 2 ^ 31) (kt : y ≤ x → pm_Y b d k tgt f lo st g σ τ cu su mc ms E) (kf : x < y → pm_Y b d k (pc + 3) f lo st g σ τ cu su mc ms E) : pm_Y b d k pc f lo (pm_I (nI y) :: pm_I (nI x) :: st) g σ τ cu su mc ms E := pm_icmp_ge tgt hd ht (fun h => kt ((nI_leI hy hx).mp h)) (fun h => kf (by have h2 := mt (nI_leI hy hx).mpr h; omega))
theorem pm_icmp_gtN {x y : Nat} {off : Int} (tgt : Nat) (hd : decode k.2.1 pc = .ok (.if_icmp .gt off, 3)) (ht : (pc : Int) + off = (tgt : Int)) (hx : x < 2 ^ 31) (hy : y < 2 ^ 31) (kt : y < x → pm_Y b d k tgt f lo st g σ τ cu su mc ms E) (kf : x ≤ y → pm_Y b d k (pc + 3) f lo st g σ τ cu su mc ms E) : pm_Y b d k pc f lo (pm_I (nI y) :: pm_I (nI x) :: st) g σ τ cu su mc ms E := pm_icmp_gt tgt hd ht (fun h => kt ((nI_ltI hy hx).mp h)) (fun h => kf (by have h2 := mt (nI_ltI hy hx).mpr h; omega))
theorem pm_icmp_leN {x y : Nat} {off : Int} (tgt : Nat) (hd : decode k.2.1 pc = .ok (.if_icmp .le off, 3)) (ht : (pc : Int) + off = (tgt : Int)) (hx : x < 2 ^ 31) (hy : y < 2 ^ 31) (kt : x ≤ y → pm_Y b d k tgt f lo st g σ τ cu su mc ms E) (kf : y < x → pm_Y b d k (pc + 3) f lo st g σ τ cu su mc ms E) : pm_Y b d k pc f lo (pm_I (nI y) :: pm_I (nI x) :: st) g σ τ cu su mc ms E := pm_icmp_le tgt hd ht (fun h => kt ((nI_leI hx hy).mp h)) (fun h => kf (by have h2 := mt (nI_leI hx hy).mpr h; omega))
theorem pm_icmp_eq_t {x y : Int32} {off : Int} (tgt : Nat) (hd : decode k.2.1 pc = .ok (.if_icmp .eq off, 3)) (ht : (pc : Int) + off = (tgt : Int)) (h : x = y) (K : pm_Y b d k tgt f lo st g σ τ cu su mc ms E) : pm_Y b d k pc f lo (pm_I y :: pm_I x :: st) g σ τ cu su mc ms E := pm_icmp_eq tgt hd ht (fun _ => K) (fun z => absurd h z)
theorem pm_icmp_eq_f {x y : Int32} {off : Int} (tgt : Nat) (hd : decode k.2.1 pc = .ok (.if_icmp .eq off, 3)) (ht : (pc : Int) + off = (tgt : Int)) (h : ¬ (x = y)) (K : pm_Y b d k (pc + 3) f lo st g σ τ cu su mc ms E) : pm_Y b d k pc f lo (pm_I y :: pm_I x :: st) g σ τ cu su mc ms E := pm_icmp_eq tgt hd ht (fun z => absurd z h) (fun _ => K)
theorem pm_icmp_ne_t {x y : Int32} {off : Int} (tgt : Nat) (hd : decode k.2.1 pc = .ok (.if_icmp .ne off, 3)) (ht : (pc : Int) + off = (tgt : Int)) (h : ¬ x = y) (K : pm_Y b d k tgt f lo st g σ τ cu su mc ms E) : pm_Y b d k pc f lo (pm_I y :: pm_I x :: st) g σ τ cu su mc ms E := pm_icmp_ne tgt hd ht (fun _ => K) (fun z => absurd z h)
theorem pm_icmp_ne_f {x y : Int32} {off : Int} (tgt : Nat) (hd : decode k.2.1 pc = .ok (.if_icmp .ne off, 3)) (ht : (pc : Int) + off = (tgt : Int)) (h : x = y) (K : pm_Y b d k (pc + 3) f lo st g σ τ cu su mc ms E) : pm_Y b d k pc f lo (pm_I y :: pm_I x :: st) g σ τ cu su mc ms E := pm_icmp_ne tgt hd ht (fun z => absurd h z) (fun _ => K)
theorem pm_icmp_lt_t {x y : Int32} {off : Int} (tgt : Nat) (hd : decode k.2.1 pc = .ok (.if_icmp .lt off, 3)) (ht : (pc : Int) + off = (tgt : Int)) (h : x < y) (K : pm_Y b d k tgt f lo st g σ τ cu su mc ms E) : pm_Y b d k pc f lo (pm_I y :: pm_I x :: st) g σ τ cu su mc ms E := pm_icmp_lt tgt hd ht (fun _ => K) (fun z => absurd h z)
theorem pm_icmp_lt_f {x y : Int32} {off : Int} (tgt : Nat) (hd : decode k.2.1 pc = .ok (.if_icmp .lt off, 3)) (ht : (pc : Int) + off = (tgt : Int)) (h : ¬ (x < y)) (K : pm_Y b d k (pc + 3) f lo st g σ τ cu su mc ms E) : pm_Y b d k pc f lo (pm_I y :: pm_I x :: st) g σ τ cu su mc ms E := pm_icmp_lt tgt hd ht (fun z => absurd z h) (fun _ => K)
theorem pm_icmp_ge_t {x y : Int32} {off : Int} (tgt : Nat) (hd : decode k.2.1 pc = .ok (.if_icmp .ge off, 3)) (ht : (pc : Int) + off = (tgt : Int)) (h : y ≤ x) (K : pm_Y b d k tgt f lo st g σ τ cu su mc ms E) : pm_Y b d k pc f lo (pm_I y :: pm_I x :: st) g σ τ cu su mc ms E := pm_icmp_ge tgt hd ht (fun _ => K) (fun z => absurd h z)
theorem pm_icmp_ge_f {x y : Int32} {off : Int} (tgt : Nat) (hd : decode k.2.1 pc = .ok (.if_icmp .ge off, 3)) (ht : (pc : Int) + off = (tgt : Int)) (h : ¬ (y ≤ x)) (K : pm_Y b d k (pc + 3) f lo st g σ τ cu su mc ms E) : pm_Y b d k pc f lo (pm_I y :: pm_I x :: st) g σ τ cu su mc ms E := pm_icmp_ge tgt hd ht (fun z => absurd z h) (fun _ => K)
theorem pm_icmp_gt_t {x y : Int32} {off : Int} (tgt : Nat) (hd : decode k.2.1 pc = .ok (.if_icmp .gt off, 3)) (ht : (pc : Int) + off = (tgt : Int)) (h : y < x) (K : pm_Y b d k tgt f lo st g σ τ cu su mc ms E) : pm_Y b d k pc f lo (pm_I y :: pm_I x :: st) g σ τ cu su mc ms E := pm_icmp_gt tgt hd ht (fun _ => K) (fun z => absurd h z)
theorem pm_icmp_gt_f {x y : Int32} {off : Int} (tgt : Nat) (hd : decode k.2.1 pc = .ok (.if_icmp .gt off, 3)) (ht : (pc : Int) + off = (tgt : Int)) (h : ¬ (y < x)) (K : pm_Y b d k (pc + 3) f lo st g σ τ cu su mc ms E) : pm_Y b d k pc f lo (pm_I y :: pm_I x :: st) g σ τ cu su mc ms E := pm_icmp_gt tgt hd ht (fun z => absurd z h) (fun _ => K)
theorem pm_icmp_le_t {x y : Int32} {off : Int} (tgt : Nat) (hd : decode k.2.1 pc = .ok (.if_icmp .le off, 3)) (ht : (pc : Int) + off = (tgt : Int)) (h : x ≤ y) (K : pm_Y b d k tgt f lo st g σ τ cu su mc ms E) : pm_Y b d k pc f lo (pm_I y :: pm_I x :: st) g σ τ cu su mc ms E := pm_icmp_le tgt hd ht (fun _ => K) (fun z => absurd h z)
theorem pm_icmp_le_f {x y : Int32} {off : Int} (tgt : Nat) (hd : decode k.2.1 pc = .ok (.if_icmp .le off, 3)) (ht : (pc : Int) + off = (tgt : Int)) (h : ¬ (x ≤ y)) (K : pm_Y b d k (pc + 3) f lo st g σ τ cu su mc ms E) : pm_Y b d k pc f lo (pm_I y :: pm_I x :: st) g σ τ cu su mc ms E := pm_icmp_le tgt hd ht (fun z => absurd z h) (fun _ => K)
theorem pm_if_eq_t {x : Int32} {off : Int} (tgt : Nat) (hd : decode k.2.1 pc = .ok (.ifCond .eq off, 3)) (ht : (pc : Int) + off = (tgt : Int)) (h : x = 0) (K : pm_Y b d k tgt f lo st g σ τ cu su mc ms E) : pm_Y b d k pc f lo (pm_I x :: st) g σ τ cu su mc ms E := pm_if_eq tgt hd ht (fun _ => K) (fun z => absurd h z)
theorem pm_if_eq_f {x : Int32} {off : Int} (tgt : Nat) (hd : decode k.2.1 pc = .ok (.ifCond .eq off, 3)) (ht : (pc : Int) + off = (tgt : Int)) (h : ¬ (x = 0)) (K : pm_Y b d k (pc + 3) f lo st g σ τ cu su mc ms E) : pm_Y b d k pc f lo (pm_I x :: st) g σ τ cu su mc ms E := pm_if_eq tgt hd ht (fun z => absurd z h) (fun _ => K)
theorem pm_if_ne_t {x : Int32} {off : Int} (tgt : Nat) (hd : decode k.2.1 pc = .ok (.ifCond .ne off, 3)) (ht : (pc : Int) + off = (tgt : Int)) (h : ¬ x = 0) (K : pm_Y b d k tgt f lo st g σ τ cu su mc ms E) : pm_Y b d k pc f lo (pm_I x :: st) g σ τ cu su mc ms E := pm_if_ne tgt hd ht (fun _ => K) (fun z => absurd z h)
theorem pm_if_ne_f {x : Int32} {off : Int} (tgt : Nat) (hd : decode k.2.1 pc = .ok (.ifCond .ne off, 3)) (ht : (pc : Int) + off = (tgt : Int)) (h : x = 0) (K : pm_Y b d k (pc + 3) f lo st g σ τ cu su mc ms E) : pm_Y b d k pc f lo (pm_I x :: st) g σ τ cu su mc ms E := pm_if_ne tgt hd ht (fun z => absurd h z) (fun _ => K)
theorem pm_if_lt_t {x : Int32} {off : Int} (tgt : Nat) (hd : decode k.2.1 pc = .ok (.ifCond .lt off, 3)) (ht : (pc : Int) + off = (tgt : Int)) (h : x < 0) (K : pm_Y b d k tgt f lo st g σ τ cu su mc ms E) : pm_Y b d k pc f lo (pm_I x :: st) g σ τ cu su mc ms E := pm_if_lt tgt hd ht (fun _ => K) (fun z => absurd h z)
theorem pm_if_lt_f {x : Int32} {off : Int} (tgt : Nat) (hd : decode k.2.1 pc = .ok (.ifCond .lt off, 3)) (ht : (pc : Int) + off = (tgt : Int)) (h : ¬ (x < 0)) (K : pm_Y b d k (pc + 3) f lo st g σ τ cu su mc ms E) : pm_Y b d k pc f lo (pm_I x :: st) g σ τ cu su mc ms E := pm_if_lt tgt hd ht (fun z => absurd z h) (fun _ => K)
theorem pm_if_ge_t {x : Int32} {off : Int} (tgt : Nat) (hd : decode k.2.1 pc = .ok (.ifCond .ge off, 3)) (ht : (pc : Int) + off = (tgt : Int)) (h : 0 ≤ x) (K : pm_Y b d k tgt f lo st g σ τ cu su mc ms E) : pm_Y b d k pc f lo (pm_I x :: st) g σ τ cu su mc ms E := pm_if_ge tgt hd ht (fun _ => K) (fun z => absurd h z)
theorem pm_if_ge_f {x : Int32} {off : Int} (tgt : Nat) (hd : decode k.2.1 pc = .ok (.ifCond .ge off, 3)) (ht : (pc : Int) + off = (tgt : Int)) (h : ¬ (0 ≤ x)) (K : pm_Y b d k (pc + 3) f lo st g σ τ cu su mc ms E) : pm_Y b d k pc f lo (pm_I x :: st) g σ τ cu su mc ms E := pm_if_ge tgt hd ht (fun z => absurd z h) (fun _ => K)
theorem pm_if_gt_t {x : Int32} {off : Int} (tgt : Nat) (hd : decode k.2.1 pc = .ok (.ifCond .gt off, 3)) (ht : (pc : Int) + off = (tgt : Int)) (h : 0 < x) (K : pm_Y b d k tgt f lo st g σ τ cu su mc ms E) : pm_Y b d k pc f lo (pm_I x :: st) g σ τ cu su mc ms E := pm_if_gt tgt hd ht (fun _ => K) (fun z => absurd h z)
theorem pm_if_gt_f {x : Int32} {off : Int} (tgt : Nat) (hd : decode k.2.1 pc = .ok (.ifCond .gt off, 3)) (ht : (pc : Int) + off = (tgt : Int)) (h : ¬ (0 < x)) (K : pm_Y b d k (pc + 3) f lo st g σ τ cu su mc ms E) : pm_Y b d k pc f lo (pm_I x :: st) g σ τ cu su mc ms E := pm_if_gt tgt hd ht (fun z => absurd z h) (fun _ => K)
theorem pm_if_le_t {x : Int32} {off : Int} (tgt : Nat) (hd : decode k.2.1 pc = .ok (.ifCond .le off, 3)) (ht : (pc : Int) + off = (tgt : Int)) (h : x ≤ 0) (K : pm_Y b d k tgt f lo st g σ τ cu su mc ms E) : pm_Y b d k pc f lo (pm_I x :: st) g σ τ cu su mc ms E := pm_if_le tgt hd ht (fun _ => K) (fun z => absurd h z)
theorem pm_if_le_f {x : Int32} {off : Int} (tgt : Nat) (hd : decode k.2.1 pc = .ok (.ifCond .le off, 3)) (ht : (pc : Int) + off = (tgt : Int)) (h : ¬ (x ≤ 0)) (K : pm_Y b d k (pc + 3) f lo st g σ τ cu su mc ms E) : pm_Y b d k pc f lo (pm_I x :: st) g σ τ cu su mc ms E := pm_if_le tgt hd ht (fun z => absurd z h) (fun _ => K)
end PMX
end
section
/-! static calls; constructors -/
def pm_upR (r : Nat → Nat → Option Nat) (i j : Nat) (x : Option Nat) : Nat → Nat → Option Nat := fun a c => if a = i ∧ c = j then x else r a c
theorem pm_upR_at {r : Nat → Nat → Option Nat} {i j : Nat} {x : Option Nat} : pm_upR r i j x i j = x := if_pos ⟨rfl, rfl⟩
theorem pm_upR_ne {r : Nat → Nat → Option Nat} {i j a c : Nat} {x : Option Nat} (h : ¬ (a = i ∧ c = j)) : pm_upR r i j x a c = r a c := if_neg h
def pm_CS (own : String) (idx : Nat) (k' : pK) (n : Nat) : Prop := Cond.methodLink own idx k'.1 ∈ pm_words ∧ Cond.static k'.1 ∈ pm_words ∧ (parseMethodDescriptor k'.1.desc).map (fun d => d.parameters.length) = some n ∧ pm_kok k'
section PMS
variable {b : pB} {d : Nat} {k k' : pK} {pc : Nat} {f : Bool} {lo : List (Option pV)} {st rest : List pV} {g : pG} {σ : pI} {τ : pJ} {cu su mc ms mc' ms' : Nat} {E : pE}
theorem pm_callS {idx : Nat} {vs stk : List pV} {wr : Bool} {Q : Option Int32 → pI → pJ → Prop} (hB : pm_base b) (hd : decode k.2.1 pc = .ok (.invokestatic idx, 3)) (hc : pm_CS k.1.cls idx k' vs.length)
    (hC : pm_C b d k' vs g σ τ mc' ms' (.inl (wr, Q))) (hstk : stk = vs.reverse ++ rest) (h1 : vs.all pm_one = true) (hj : vs.all pm_nj = true) (hn : vs.length ≤ k'.2.2.1) (hw : (rest.map pm_wt).sum ≤ 8) (hcu : cu + mc' ≤ mc) (hsu : su + ms' ≤ ms)
    (hK : ∀ (v : Option Int32) (σ' : pI) (τ' : pJ), v.isSome = k'.2.2.2.1.isSome → Q v σ' τ' → pm_Y b (d + 1) k (pc + 3) (f || wr) lo (v.toList.map pm_I ++ rest) g σ' τ' (cu + mc') (su + ms') mc ms E) :
    pm_Y b (d + 1) k pc f lo stk g σ τ cu su mc ms E := by
  intro p e R s m args below meth c H locs ls ad jk hF hR hI hL
  obtain ⟨c1, c2, c4, c5⟩ := hc
  have hM := pm_met (ad := ad) hB c5 hC h1 hn (Qc := pm_Qr b k' ad g Q) (free := fun q => wr = true ∧ pm_A b q) (fun _ _ _ => rfl)
  have hmap : vs.map (pm_v ad b.2.2.2.2.2.1 jk) = vs.map (pm_v ad b.2.2.2.2.2.1 0) := pm_nj_map hj
  have hmc := hR.2.2.1
  have hms := hR.2.2.2
  have hR1 := hR.1
  have hR2 := hR.2.1
  have hk2 := c5.2.1
  refine pm_after (k' := k') (rest := rest) (a := (vs.map (pm_v ad b.2.2.2.2.2.1 jk)).toArray) (Q := Q) (wr := wr) (mc' := mc') (ms' := ms') ?_ hF hR hI hL hK
  intro T hT X
  have hwords : ∀ w ∈ [pm_word k'], ∀ (a' : Array Value) (U : State), s.WarmedH U.vm → w.before a' U = true := fun w hw' a' U hW => by
    rw [List.mem_singleton] at hw'
    subst hw'
    exact pm_at hW (pm_good _ c5.2.2.1) (hF.ws _ c5.2.2.1)
  have hini : ∀ (a' : Array Value) (U : State), s.WarmedH U.vm → (Cond.initialized k'.1.cls).before a' U = true := fun a' U hW => pm_at hW (pm_good _ c5.2.2.2.1) (hF.ws _ c5.2.2.2.1)
  have hK' : Back b.1 R p e below s args k'.1 3 8 (PreOf R mc' ms' (pm_Pc b ad vs g σ τ)) (PostOf (pm_Qr b k' ad g Q) mc' ms' (fun q => wr = true ∧ pm_A b q)) := by
    have hf1 : (pm_rm d mc' ms').frames + 1 ≤ R.frames := by show d + 7 + 1 ≤ R.frames; omega
    have hl1 : 8 + (k'.2.2.1 + 11) + (pm_rm d mc' ms').locals ≤ R.locals := by show 8 + (k'.2.2.1 + 11) + (64 * d + 120) ≤ R.locals; omega
    cases hh : k'.2.2.2.2 with
    | nil => exact back_of (bytes := k'.2.1) (maxL := k'.2.2.1) (ret := k'.2.2.2.1) hM pm_blind rfl rfl hf1 hl1 hwords (by unfold pm_word; rw [hh]; exact List.mem_cons_self) hini
    | cons x t => exact va_backW (bytes := k'.2.1) (maxL := k'.2.2.1) (ret := k'.2.2.2.1) (hh := x :: t) hM pm_blind rfl rfl hf1 hl1 hwords (by unfold pm_word; rw [hh]; exact List.mem_cons_self) hini
  have hnm : ∃ (mk : MethodId) (methM : Method), s.methodNamed? k'.1 = some mk ∧ s.vm.method? mk = some methM ∧ parseMethodDescriptor k'.1.desc = some methM.sig := by
    have hw' := hF.ws _ c5.2.2.1
    unfold pm_word at hw'
    cases hh : k'.2.2.2.2 with
    | nil =>
      rw [hh] at hw'
      obtain ⟨mk, hnamed⟩ := Cond.code_named hw'
      obtain ⟨methM, cM, q1, -, -, -, -, -, -, q9⟩ := Cond.code_spec hnamed hw'
      exact ⟨mk, methM, hnamed, q1, q9⟩
    | cons x t =>
      rw [hh] at hw'
      obtain ⟨mk, methM, cM, q0, q1, -, -, -, -, -, -, q9⟩ := Cond.codeWith_spec hw'
      exact ⟨mk, methM, q0, q1, q9⟩
  obtain ⟨mk, methM, hnamed, hmethM, hsigM⟩ := hnm
  have hstatic : methM.isStatic = true := Cond.static_spec hnamed hmethM (hF.ws _ c2)
  obtain ⟨kP, hkP, -⟩ := className_of_methodNamed hnamed
  have hinitP : kP.init = .initialized := Cond.initialized_spec (findClass_of_methodNamed hnamed) hkP (hF.ws _ c5.2.2.2.1)
  have hlen : (vs.map (pm_v ad b.2.2.2.2.2.1 jk)).length = methM.sig.parameters.length := by
    rw [List.length_map]
    rw [hsigM] at c4
    exact (Option.some.inj c4).symm
  obtain ⟨vm₁, X₁, hstep₁⟩ := X.invokestatic hF.1 hF.own (hF.ws _ c1) hnamed hmethM hstatic hkP hinitP c5.2.2.2.2 (g := F0 m pc ls (stk.map (pm_v ad b.2.2.2.2.2.1 jk))) rfl (argsL := vs.map (pm_v ad b.2.2.2.2.2.1 jk)) (rest := rest.map (pm_v ad b.2.2.2.2.2.1 jk)) hlen (by rw [hstk, List.map_append, List.map_reverse]) (by rw [hF.2.1]; exact hd)
  obtain ⟨v, ⟨U', l2, n2, s2⟩, X', ⟨g', mk', t, L, e1, e2, hq, q1, hL', q2, q3⟩, hsteps⟩ := hK' m meth c ⟨T.setVm vm₁, locs, cu, su⟩ (F0 m pc ls (rest.map (pm_v ad b.2.2.2.2.2.1 jk))) (.invokestatic idx) mk (vs.map (pm_v ad b.2.2.2.2.2.1 jk)).toArray X₁ rfl (hL.1.trans hF.2.2.1.symm) (by rw [hF.2.1]; exact hd) (lv_room (by rw [pm_v_sum]; exact hw)) (X₁.named hnamed)
    ⟨by show cu + mc' ≤ R.cells; omega, by show su + ms' ≤ R.slots; omega, pm_pre hF hI (U := T.setVm vm₁) hT X₁.warmed hmap⟩
  dsimp only [Pt.U, Pt.locs, Pt.cells, Pt.slots] at X' e1 e2 q1 q2 q3 hsteps
  subst q1; subst q2; subst q3
  exact ⟨v, (T.setVm vm₁).calling g' mk' (vs.map (pm_v ad b.2.2.2.2.2.1 jk)).toArray, t, U', L, hT, X', hL', e1, e2, hq, fun target h => hstep₁ _ fun acts => by rw [doInvoke_state]; exact hsteps.trans h⟩
end PMS
section PMQ
variable {b : pB} {d : Nat} {k k' : pK} {pc : Nat} {f : Bool} {lo : List (Option pV)} {st rest : List pV} {g : pG} {σ : pI} {τ : pJ} {cu su mc ms mc' ms' : Nat} {Q : pG → pI → pJ → Prop}
theorem pm_putrF {idx ci j i r : Nat} {ty : FieldType} (hd : decode k.2.1 pc = .ok (.putfield idx, 3)) (hf : pm_FP k.1.cls idx ci j ty true) (hty : (∃ n, ty = .object n) ∨ ∃ t, ty = .array t) (hin : k.1.name = "<init>") (hown : ∃ T N, pm_cl[ci]? = some (k.1.cls, T, N)) (hs : g.2.1 i = (0, ci)) (hi : i < g.1) (hr : pm_rf ci j = true)
    (K : pm_Y b d k (pc + 3) true lo st (g.1, g.2.1, pm_upR g.2.2 i j (some r)) σ τ cu su mc ms (.inr (.inr Q))) : pm_Y b d k pc f lo (pm_R r :: pm_R i :: st) g σ τ cu su mc ms (.inr (.inr Q)) := by
  intro p e R s m args below meth c H locs ls ad jk hF hR hI hL
  obtain ⟨C, T, ty0, h1, h2, h3, h4, h5, h6, h7, h8, h9⟩ := hf
  obtain ⟨T', N', hcl⟩ := hown
  have hC : C = k.1.cls := by
    rw [h1] at hcl
    exact congrArg (fun q => q.1) (Option.some.inj hcl)
  refine va_putF (own := k.1.cls) (ref := C) (C := C) (T := T) (N := pm_nf ci) (v := .ref (ad r)) (ty := ty) hF.1 hF.2.1 hF.ws h5 ty0 h6 h7 hF.own hF.K hI.1 hI.2.1.to hI.2.2.1 i (by rw [pm_ws_get hi, pm_ct_o hs]) h1 j h2 (hF.ws _ h4) (fun x h => by rw [h3] at h; exact h) h8 (hF.name.trans hin) (h3.trans hC) h9 (by rcases hty with ⟨n, rfl⟩ | ⟨t, rfl⟩ <;> rfl) (by rcases hty with ⟨n, rfl⟩ | ⟨t, rfl⟩ <;> rfl) (by rw [List.length_map, List.length_range]; exact h2) hd (fun H1 locs1 hP _ hS => ?_)
  have hm : ((List.range (pm_nf ci)).map (pm_fs ad g σ ci i)).set j (.ref (ad r)) = (List.range (pm_nf ci)).map (pm_fs ad (g.1, g.2.1, pm_upR g.2.2 i j (some r)) σ ci i) := by
    refine pm_map_set (pm_nf ci) j (pm_fs ad g σ ci i) (pm_fs ad (g.1, g.2.1, pm_upR g.2.2 i j (some r)) σ ci i) (fun a ha => ?_) ?_
    · show (if pm_rf ci a = true then va_rf ((pm_upR g.2.2 i j (some r) i a).map ad) else Value.int (σ i a)) = (if pm_rf ci a = true then va_rf ((g.2.2 i a).map ad) else Value.int (σ i a))
      rw [pm_upR_ne (fun z => ha z.2)]
    · show _ = (if pm_rf ci j = true then va_rf ((pm_upR g.2.2 i j (some r) i j).map ad) else Value.int (σ i j))
      rw [hr, pm_upR_at]
      rfl
  have hset : (pm_ws b ad g σ τ).set i (ad i, .inr (ci, ((List.range (pm_nf ci)).map (pm_fs ad g σ ci i)).set j (.ref (ad r)))) = pm_ws b ad (g.1, g.2.1, pm_upR g.2.2 i j (some r)) σ τ := by
    refine pm_ws_set (g := g) (g' := (g.1, g.2.1, pm_upR g.2.2 i j (some r))) rfl (fun a ha => ?_) ?_
    · have hrow : pm_upR g.2.2 i j (some r) a = g.2.2 a := by
        funext q
        exact if_neg fun z => ha z.1
      unfold pm_ct
      simp only [hrow]
    · rw [hm, pm_ct_o (g := (g.1, g.2.1, pm_upR g.2.2 i j (some r))) hs]
  rw [hset] at hP
  exact K p e R s m args below meth c H1 locs1 ls ad jk hF hR ⟨hP, hI.2.1, hS, fun h => by cases h⟩ hL
theorem pm_objInit {idx i : Nat} (hd : decode k.2.1 pc = .ok (.invokespecial idx, 3)) (hw1 : Cond.methodLink k.1.cls idx Lib.objectInit ∈ pm_words) (hw2 : Cond.instanceMethod Lib.objectInit ∈ pm_words) (hw3 : Cond.code Lib.objectInit ⟨#[0xb1]⟩ 1 none ∈ pm_words) (hst : (st.map pm_wt).sum ≤ 8) {E : pE}
    (K : pm_Y b d k (pc + 3) f lo st g σ τ cu su mc ms E) : pm_Y b d k pc f lo (pm_R i :: st) g σ τ cu su mc ms E := by
  intro p e R s m args below meth c H locs ls ad jk hF hR hI hL
  have hR1 := hR.1
  have hR2 := hR.2.1
  refine W.objInit (g := F0 m pc ls ((pm_R i :: st).map (pm_v ad b.2.2.2.2.2.1 jk))) (rest := st.map (pm_v ad b.2.2.2.2.2.1 jk)) hF.1 hF.2.1 hF.own (hF.ws _ hw1) (hF.ws _ hw2) (hF.ws _ hw3) rfl (hL.1.trans hF.2.2.1.symm) rfl hd (by omega) (by
    rw [pm_v_sum]
    show 2 * 0 + (st.map pm_wt).sum + 12 ≤ R.locals
    omega) ?_
  exact K _ _ _ _ _ _ _ _ _ _ _ _ _ _ hF hR hI hL
theorem pm_returnN (hd : decode k.2.1 pc = .ok (.return_, 1)) (hr : k.2.2.2.1 = none) (hc : cu ≤ mc) (hs : su ≤ ms) (hq : Q g σ τ) : pm_Y b d k pc f lo [] g σ τ cu su mc ms (.inr (.inr Q)) := by
  intro p e R s m args below meth c H locs ls ad jk hF hR hI hL
  have hlocks := hF.locks
  refine W.widen hc hs ?_
  exact W.vret (Qc := pm_Qn b ad g Q) (free := pm_A b) hF.1 hF.2.1 (hF.ret.trans hr) (fun t ht hW => ⟨ad, g, σ, τ, rfl, hq, Nat.le_refl _, fun _ _ => rfl, by rw [ht]; exact hI.1, hI.2.1, by rw [ht]; exact ⟨hI.2.2.1.1, hI.2.2.1.2.1, fun q h => by cases h⟩⟩) hI.2.2.1.2.2 hd
variable {p : Program} {e : Env} {R : Room} {s : State} {m : MethodId} {args : Array Value} {below : List Frame} {meth : Method} {c : Code} {H : Heap} {locs : List Loc} {ls : Array Slot} {ad : Nat → Nat} {jk : Nat}
theorem pm_afterN {st0 : List Value} {a : Array Value} {Q' : pG → pI → pJ → Prop}
    (hrun : va_Run p b.1 e R s m args below meth c H locs cu su mc' ms' (F0 m pc ls st0) (rest.map (pm_v ad b.2.2.2.2.2.1 jk)) (pm_Qn b ad g Q' a) (pm_A b))
    (hF : pm_fr b k p e s m args meth c) (hR : pm_room d mc ms R) (hI : pm_inv b ad f g σ τ H locs) (hL : pm_lo b ad jk k.2.2.1 lo ls) (hlo : lo.all (pm_lto g.1) = true) (hst : rest.all (pm_lt g.1) = true)
    (hK : ∀ (g' : pG) (σ' : pI) (τ' : pJ), Q' g' σ' τ' → pm_Y b d k (pc + 3) true lo rest g' σ' τ' (cu + mc') (su + ms') mc ms (.inr (.inr Q))) :
    W p b.1 e R s m args below meth c H locs cu su (pm_end b k (.inr (.inr Q)) ad g below args s mc ms) (F0 m pc ls st0) := by
  intro T hT X
  obtain ⟨v, st₀, t, T', L, h0, X', hL', e1, e2, ⟨ad', g', σ', τ', hv, hq, hg, had, hP', hD', hS'⟩, st⟩ := hrun T hT X
  cases hv
  have hinv : pm_inv b ad' true g' σ' τ' T'.heap (locs ++ L) := by
    refine ⟨by rw [e1]; exact hP', hD', ⟨by rw [e1]; exact hS'.1, by rw [e1]; exact hS'.2.1, fun q hq' => ?_⟩, fun h => by cases h⟩
    rcases List.mem_append.mp hq' with h | h
    · exact hI.2.2.1.2.2 q h
    · exact hL' q h
  obtain ⟨t2, a1, b1⟩ := hK g' σ' τ' hq p e R s m args below meth c T'.heap (locs ++ L) ls ad' jk hF hR hinv (pm_lt_lo had hlo hL) T' rfl X'
  rw [pm_lt_map had hst] at a1
  exact ⟨t2, st t2 a1, pm_end_mono hg had t2 b1⟩
end PMQ
def pm_CI (own : String) (idx : Nat) (k' : pK) (n : Nat) : Prop := Cond.methodLink own idx k'.1 ∈ pm_words ∧ Cond.instanceMethod k'.1 ∈ pm_words ∧ (parseMethodDescriptor k'.1.desc).map (fun d => d.parameters.length) = some n ∧ pm_kok k' ∧ k'.2.2.2.2 = [] ∧ k'.1.name = "<init>" ∧ k'.2.2.2.1 = none
def pm_CIN (own host : String) (idx : Nat) (k' : pK) (n : Nat) : Prop := Cond.methodLinkNest own idx k'.1 host ∈ pm_words ∧ Cond.instanceMethod k'.1 ∈ pm_words ∧ (parseMethodDescriptor k'.1.desc).map (fun d => d.parameters.length) = some n ∧ pm_kok k' ∧ k'.2.2.2.2 = [] ∧ k'.1.name = "<init>" ∧ k'.2.2.2.1 = none
section PMZ
variable {b : pB} {d : Nat} {k k' : pK} {pc : Nat} {f : Bool} {lo : List (Option pV)} {st rest : List pV} {g : pG} {σ : pI} {τ : pJ} {cu su mc ms mc' ms' : Nat} {Q Q' : pG → pI → pJ → Prop}
theorem pm_callI {idx i : Nat} {vs stk : List pV} (hB : pm_base b) (hd : decode k.2.1 pc = .ok (.invokespecial idx, 3)) (hc : pm_CI k.1.cls idx k' vs.length)
    (hC : pm_C b d k' (pm_R i :: vs) g σ τ mc' ms' (.inr (.inr Q'))) (hstk : stk = vs.reverse ++ pm_R i :: rest) (h1 : vs.all pm_one = true) (hj : vs.all pm_nj = true) (hn : vs.length + 1 ≤ k'.2.2.1) (hw : (rest.map pm_wt).sum ≤ 8) (hcu : cu + mc' ≤ mc) (hsu : su + ms' ≤ ms)
    (hlo : lo.all (pm_lto g.1) = true) (hst : rest.all (pm_lt g.1) = true)
    (hK : ∀ (g' : pG) (σ' : pI) (τ' : pJ), Q' g' σ' τ' → pm_Y b (d + 1) k (pc + 3) true lo rest g' σ' τ' (cu + mc') (su + ms') mc ms (.inr (.inr Q))) :
    pm_Y b (d + 1) k pc f lo stk g σ τ cu su mc ms (.inr (.inr Q)) := by
  intro p e R s m args below meth c H locs ls ad jk hF hR hI hL
  obtain ⟨c1, c2, c4, c5, c6, c7, c8⟩ := hc
  have hM := pm_met (ad := ad) hB c5 hC (by rw [List.all_cons, h1]; rfl) (by rw [List.length_cons]; exact hn) (Qc := pm_Qn b ad g Q') (free := pm_A b) (fun _ _ _ => rfl)
  have hmap : vs.map (pm_v ad b.2.2.2.2.2.1 jk) = vs.map (pm_v ad b.2.2.2.2.2.1 0) := pm_nj_map hj
  have hmc := hR.2.2.1
  have hms := hR.2.2.2
  have hcb : CallB R s args k.1.cls idx k'.1 k'.2.1 k'.2.2.1 k'.2.2.2.1 [pm_word k'] (pm_rm d mc' ms') mc' ms' vs.length := pm_callB hF hR c1 c4 c5 c6
  rw [c8] at hcb
  exact pm_afterN (rest := rest) (va_runI (Ts := pm_words) (own := k.1.cls) (n := vs.length) (b := ad i) (As := vs.map (pm_v ad b.2.2.2.2.2.1 jk)) ⟨hF.1, hF.2.1, hF.2.2.1, hF.own, hF.ws⟩ hM ⟨hcb, c7, hF.ws _ c2⟩ ⟨pm_blind, fun U hU hW => pm_pre hF hI hU hW (by rw [List.map_cons, hmap]; rfl)⟩ rfl (by rw [List.length_map]) hL.1 (by rw [hstk, List.map_append, List.map_reverse, List.map_cons]; rfl) (lv_room (by rw [pm_v_sum]; exact hw)) hd ⟨by omega, by omega⟩) hF hR hI hL hlo hst hK
theorem pm_callIN {idx i : Nat} {host : String} {vs stk : List pV} (hB : pm_base b) (hd : decode k.2.1 pc = .ok (.invokespecial idx, 3)) (hc : pm_CIN k.1.cls host idx k' vs.length)
    (hC : pm_C b d k' (pm_R i :: vs) g σ τ mc' ms' (.inr (.inr Q'))) (hstk : stk = vs.reverse ++ pm_R i :: rest) (h1 : vs.all pm_one = true) (hj : vs.all pm_nj = true) (hn : vs.length + 1 ≤ k'.2.2.1) (hw : (rest.map pm_wt).sum ≤ 8) (hcu : cu + mc' ≤ mc) (hsu : su + ms' ≤ ms)
    (hlo : lo.all (pm_lto g.1) = true) (hst : rest.all (pm_lt g.1) = true)
    (hK : ∀ (g' : pG) (σ' : pI) (τ' : pJ), Q' g' σ' τ' → pm_Y b (d + 1) k (pc + 3) true lo rest g' σ' τ' (cu + mc') (su + ms') mc ms (.inr (.inr Q))) :
    pm_Y b (d + 1) k pc f lo stk g σ τ cu su mc ms (.inr (.inr Q)) := by
  intro p e R s m args below meth c H locs ls ad jk hF hR hI hL
  obtain ⟨c1, c2, c4, c5, c6, c7, c8⟩ := hc
  have hM := pm_met (ad := ad) hB c5 hC (by rw [List.all_cons, h1]; rfl) (by rw [List.length_cons]; exact hn) (Qc := pm_Qn b ad g Q') (free := pm_A b) (fun _ _ _ => rfl)
  have hmap : vs.map (pm_v ad b.2.2.2.2.2.1 jk) = vs.map (pm_v ad b.2.2.2.2.2.1 0) := pm_nj_map hj
  have hmc := hR.2.2.1
  have hms := hR.2.2.2
  have hR1 := hR.1
  have hR2 := hR.2.1
  have hk2 := c5.2.1
  have hwd : pm_word k' = .code k'.1 k'.2.1 k'.2.2.1 none := by unfold pm_word; rw [c6, c8]
  have hcb : va_CN R s args k.1.cls idx k'.1 host k'.2.1 k'.2.2.1 none [pm_word k'] (pm_rm d mc' ms') mc' ms' vs.length := by
    refine ⟨⟨rfl, rfl, by show d + 7 + 1 ≤ R.frames; omega, by show 8 + (k'.2.2.1 + 11) + (64 * d + 120) ≤ R.locals; omega, fun w hw' a' U hW => ?_, by rw [hwd]; exact List.mem_cons_self⟩, by rw [← hwd]; exact hF.ws _ c5.2.2.1, hF.ws _ c5.2.2.2.1, c5.2.2.2.2, fun sig h => ?_, hF.ws _ c1⟩
    · rw [List.mem_singleton] at hw'
      subst hw'
      exact pm_at hW (pm_good _ c5.2.2.1) (hF.ws _ c5.2.2.1)
    · rw [h] at c4
      exact (Option.some.inj c4).symm
  exact pm_afterN (rest := rest) (va_runIN (Ts := pm_words) (own := k.1.cls) (host := host) (n := vs.length) (b := ad i) (As := vs.map (pm_v ad b.2.2.2.2.2.1 jk)) ⟨hF.1, hF.2.1, hF.2.2.1, hF.own, hF.ws⟩ hM ⟨hcb, c7, hF.ws _ c2⟩ ⟨pm_blind, fun U hU hW => pm_pre hF hI hU hW (by rw [List.map_cons, hmap]; rfl)⟩ rfl (by rw [List.length_map]) hL.1 (by rw [hstk, List.map_append, List.map_reverse, List.map_cons]; rfl) (lv_room (by rw [pm_v_sum]; exact hw)) hd ⟨by omega, by omega⟩) hF hR hI hL hlo hst hK
end PMZ
end
section
/-! each method's own words -/
theorem kk_H_init : pm_kok km_H_init := ⟨by decide +kernel, by decide +kernel, pm_mem 59 (by decide +kernel) (by decide +kernel), pm_mem 43 (by decide +kernel) (by decide +kernel), by decide +kernel, by decide +kernel⟩
theorem kk_H_people : pm_kok km_H_people := ⟨by decide +kernel, by decide +kernel, pm_mem 336 (by decide +kernel) (by decide +kernel), pm_mem 43 (by decide +kernel) (by decide +kernel), by decide +kernel, by decide +kernel⟩
theorem kk_H_put : pm_kok km_H_put := ⟨by decide +kernel, by decide +kernel, pm_mem 408 (by decide +kernel) (by decide +kernel), pm_mem 43 (by decide +kernel) (by decide +kernel), by decide +kernel, by decide +kernel⟩
theorem kk_H_remove : pm_kok km_H_remove := ⟨by decide +kernel, by decide +kernel, pm_mem 470 (by decide +kernel) (by decide +kernel), pm_mem 43 (by decide +kernel) (by decide +kernel), by decide +kernel, by decide +kernel⟩
theorem kk_H_move : pm_kok km_H_move := ⟨by decide +kernel, by decide +kernel, pm_mem 494 (by decide +kernel) (by decide +kernel), pm_mem 43 (by decide +kernel) (by decide +kernel), by decide +kernel, by decide +kernel⟩
theorem kk_H_at : pm_kok km_H_at := ⟨by decide +kernel, by decide +kernel, pm_mem 505 (by decide +kernel) (by decide +kernel), pm_mem 43 (by decide +kernel) (by decide +kernel), by decide +kernel, by decide +kernel⟩
theorem kk_H_place : pm_kok km_H_place := ⟨by decide +kernel, by decide +kernel, pm_mem 512 (by decide +kernel) (by decide +kernel), pm_mem 43 (by decide +kernel) (by decide +kernel), by decide +kernel, by decide +kernel⟩
theorem kk_H_pair : pm_kok km_H_pair := ⟨by decide +kernel, by decide +kernel, pm_mem 519 (by decide +kernel) (by decide +kernel), pm_mem 43 (by decide +kernel) (by decide +kernel), by decide +kernel, by decide +kernel⟩
theorem kk_H_partner : pm_kok km_H_partner := ⟨by decide +kernel, by decide +kernel, pm_mem 528 (by decide +kernel) (by decide +kernel), pm_mem 43 (by decide +kernel) (by decide +kernel), by decide +kernel, by decide +kernel⟩
theorem kk_H_blocking : pm_kok km_H_blocking := ⟨by decide +kernel, by decide +kernel, pm_mem 186 (by decide +kernel) (by decide +kernel), pm_mem 43 (by decide +kernel) (by decide +kernel), by decide +kernel, by decide +kernel⟩
theorem kk_H_satisfy : pm_kok km_H_satisfy := ⟨by decide +kernel, by decide +kernel, pm_mem 202 (by decide +kernel) (by decide +kernel), pm_mem 43 (by decide +kernel) (by decide +kernel), by decide +kernel, by decide +kernel⟩
theorem kk_H_matchings : pm_kok km_H_matchings := ⟨by decide +kernel, by decide +kernel, pm_mem 218 (by decide +kernel) (by decide +kernel), pm_mem 43 (by decide +kernel) (by decide +kernel), by decide +kernel, by decide +kernel⟩
theorem kk_H_matched : pm_kok km_H_matched := ⟨by decide +kernel, by decide +kernel, pm_mem 539 (by decide +kernel) (by decide +kernel), pm_mem 43 (by decide +kernel) (by decide +kernel), by decide +kernel, by decide +kernel⟩
theorem kk_H_extreme : pm_kok km_H_extreme := ⟨by decide +kernel, by decide +kernel, pm_mem 550 (by decide +kernel) (by decide +kernel), pm_mem 43 (by decide +kernel) (by decide +kernel), by decide +kernel, by decide +kernel⟩
theorem kk_H_together : pm_kok km_H_together := ⟨by decide +kernel, by decide +kernel, pm_mem 565 (by decide +kernel) (by decide +kernel), pm_mem 43 (by decide +kernel) (by decide +kernel), by decide +kernel, by decide +kernel⟩
theorem kk_H_party : pm_kok km_H_party := ⟨by decide +kernel, by decide +kernel, pm_mem 576 (by decide +kernel) (by decide +kernel), pm_mem 43 (by decide +kernel) (by decide +kernel), by decide +kernel, by decide +kernel⟩
theorem kk_H_next : pm_kok km_H_next := ⟨by decide +kernel, by decide +kernel, pm_mem 587 (by decide +kernel) (by decide +kernel), pm_mem 43 (by decide +kernel) (by decide +kernel), by decide +kernel, by decide +kernel⟩
theorem kk_H_parties : pm_kok km_H_parties := ⟨by decide +kernel, by decide +kernel, pm_mem 264 (by decide +kernel) (by decide +kernel), pm_mem 43 (by decide +kernel) (by decide +kernel), by decide +kernel, by decide +kernel⟩
theorem kk_H_size : pm_kok km_H_size := ⟨by decide +kernel, by decide +kernel, pm_mem 314 (by decide +kernel) (by decide +kernel), pm_mem 43 (by decide +kernel) (by decide +kernel), by decide +kernel, by decide +kernel⟩
theorem kk_H_astray : pm_kok km_H_astray := ⟨by decide +kernel, by decide +kernel, pm_mem 319 (by decide +kernel) (by decide +kernel), pm_mem 43 (by decide +kernel) (by decide +kernel), by decide +kernel, by decide +kernel⟩
theorem kk_H_startWith : pm_kok km_H_startWith := ⟨by decide +kernel, by decide +kernel, pm_mem 161 (by decide +kernel) (by decide +kernel), pm_mem 43 (by decide +kernel) (by decide +kernel), by decide +kernel, by decide +kernel⟩
theorem kk_H_demandPerson : pm_kok km_H_demandPerson := ⟨by decide +kernel, by decide +kernel, pm_mem 416 (by decide +kernel) (by decide +kernel), pm_mem 43 (by decide +kernel) (by decide +kernel), by decide +kernel, by decide +kernel⟩
theorem kk_H_demandPersons : pm_kok km_H_demandPersons := ⟨by decide +kernel, by decide +kernel, pm_mem 412 (by decide +kernel) (by decide +kernel), pm_mem 43 (by decide +kernel) (by decide +kernel), by decide +kernel, by decide +kernel⟩
theorem kk_H_demandPlace : pm_kok km_H_demandPlace := ⟨by decide +kernel, by decide +kernel, pm_mem 474 (by decide +kernel) (by decide +kernel), pm_mem 43 (by decide +kernel) (by decide +kernel), by decide +kernel, by decide +kernel⟩
theorem kk_W_init : pm_kok km_W_init := ⟨by decide +kernel, by decide +kernel, pm_mem 67 (by decide +kernel) (by decide +kernel), pm_mem 44 (by decide +kernel) (by decide +kernel), by decide +kernel, by decide +kernel⟩
theorem kk_W_count : pm_kok km_W_count := ⟨by decide +kernel, by decide +kernel, pm_mem 194 (by decide +kernel) (by decide +kernel), pm_mem 44 (by decide +kernel) (by decide +kernel), by decide +kernel, by decide +kernel⟩
theorem kk_W_changes : pm_kok km_W_changes := ⟨by decide +kernel, by decide +kernel, pm_mem 230 (by decide +kernel) (by decide +kernel), pm_mem 44 (by decide +kernel) (by decide +kernel), by decide +kernel, by decide +kernel⟩
theorem kk_W_length : pm_kok km_W_length := ⟨by decide +kernel, by decide +kernel, pm_mem 243 (by decide +kernel) (by decide +kernel), pm_mem 44 (by decide +kernel) (by decide +kernel), by decide +kernel, by decide +kernel⟩
theorem kk_W_otherAt : pm_kok km_W_otherAt := ⟨by decide +kernel, by decide +kernel, pm_mem 247 (by decide +kernel) (by decide +kernel), pm_mem 44 (by decide +kernel) (by decide +kernel), by decide +kernel, by decide +kernel⟩
theorem kk_W_placeOf : pm_kok km_W_placeOf := ⟨by decide +kernel, by decide +kernel, pm_mem 435 (by decide +kernel) (by decide +kernel), pm_mem 44 (by decide +kernel) (by decide +kernel), by decide +kernel, by decide +kernel⟩
theorem kk_W_clear : pm_kok km_W_clear := ⟨by decide +kernel, by decide +kernel, pm_mem 165 (by decide +kernel) (by decide +kernel), pm_mem 44 (by decide +kernel) (by decide +kernel), by decide +kernel, by decide +kernel⟩
theorem kk_W_append : pm_kok km_W_append := ⟨by decide +kernel, by decide +kernel, pm_mem 454 (by decide +kernel) (by decide +kernel), pm_mem 44 (by decide +kernel) (by decide +kernel), by decide +kernel, by decide +kernel⟩
theorem kk_W_cut : pm_kok km_W_cut := ⟨by decide +kernel, by decide +kernel, pm_mem 479 (by decide +kernel) (by decide +kernel), pm_mem 44 (by decide +kernel) (by decide +kernel), by decide +kernel, by decide +kernel⟩
theorem kk_W_shift : pm_kok km_W_shift := ⟨by decide +kernel, by decide +kernel, pm_mem 498 (by decide +kernel) (by decide +kernel), pm_mem 44 (by decide +kernel) (by decide +kernel), by decide +kernel, by decide +kernel⟩
theorem kk_W_slide : pm_kok km_W_slide := ⟨by decide +kernel, by decide +kernel, pm_mem 483 (by decide +kernel) (by decide +kernel), pm_mem 44 (by decide +kernel) (by decide +kernel), by decide +kernel, by decide +kernel⟩
theorem kk_W_set : pm_kok km_W_set := ⟨by decide +kernel, by decide +kernel, pm_mem 458 (by decide +kernel) (by decide +kernel), pm_mem 44 (by decide +kernel) (by decide +kernel), by decide +kernel, by decide +kernel⟩
theorem kk_W_noteChange : pm_kok km_W_noteChange := ⟨by decide +kernel, by decide +kernel, pm_mem 462 (by decide +kernel) (by decide +kernel), pm_mem 44 (by decide +kernel) (by decide +kernel), by decide +kernel, by decide +kernel⟩
theorem kk_W_arePossible : pm_kok km_W_arePossible := ⟨by decide +kernel, by decide +kernel, pm_mem 251 (by decide +kernel) (by decide +kernel), pm_mem 44 (by decide +kernel) (by decide +kernel), by decide +kernel, by decide +kernel⟩
theorem kk_W_prefers : pm_kok km_W_prefers := ⟨by decide +kernel, by decide +kernel, pm_mem 293 (by decide +kernel) (by decide +kernel), pm_mem 44 (by decide +kernel) (by decide +kernel), by decide +kernel, by decide +kernel⟩
theorem kk_W_wouldBlock : pm_kok km_W_wouldBlock := ⟨by decide +kernel, by decide +kernel, pm_mem 198 (by decide +kernel) (by decide +kernel), pm_mem 44 (by decide +kernel) (by decide +kernel), by decide +kernel, by decide +kernel⟩
theorem kk_W_wouldBlockWithAny : pm_kok km_W_wouldBlockWithAny := ⟨by decide +kernel, by decide +kernel, pm_mem 259 (by decide +kernel) (by decide +kernel), pm_mem 44 (by decide +kernel) (by decide +kernel), by decide +kernel, by decide +kernel⟩
theorem kk_D_init : pm_kok km_D_init := ⟨by decide +kernel, by decide +kernel, pm_mem 95 (by decide +kernel) (by decide +kernel), pm_mem 45 (by decide +kernel) (by decide +kernel), by decide +kernel, by decide +kernel⟩
theorem kk_D_mateOf : pm_kok km_D_mateOf := ⟨by decide +kernel, by decide +kernel, pm_mem 532 (by decide +kernel) (by decide +kernel), pm_mem 45 (by decide +kernel) (by decide +kernel), by decide +kernel, by decide +kernel⟩
theorem kk_D_makeAllSingle : pm_kok km_D_makeAllSingle := ⟨by decide +kernel, by decide +kernel, pm_mem 169 (by decide +kernel) (by decide +kernel), pm_mem 45 (by decide +kernel) (by decide +kernel), by decide +kernel, by decide +kernel⟩
theorem kk_D_join : pm_kok km_D_join := ⟨by decide +kernel, by decide +kernel, pm_mem 210 (by decide +kernel) (by decide +kernel), pm_mem 45 (by decide +kernel) (by decide +kernel), by decide +kernel, by decide +kernel⟩
theorem kk_D_partIfNotPossible : pm_kok km_D_partIfNotPossible := ⟨by decide +kernel, by decide +kernel, pm_mem 487 (by decide +kernel) (by decide +kernel), pm_mem 45 (by decide +kernel) (by decide +kernel), by decide +kernel, by decide +kernel⟩
theorem kk_D_makeSingle : pm_kok km_D_makeSingle := ⟨by decide +kernel, by decide +kernel, pm_mem 214 (by decide +kernel) (by decide +kernel), pm_mem 45 (by decide +kernel) (by decide +kernel), by decide +kernel, by decide +kernel⟩
theorem kk_D_countBlocking : pm_kok km_D_countBlocking := ⟨by decide +kernel, by decide +kernel, pm_mem 190 (by decide +kernel) (by decide +kernel), pm_mem 45 (by decide +kernel) (by decide +kernel), by decide +kernel, by decide +kernel⟩
theorem kk_D_joinFirstBlocking : pm_kok km_D_joinFirstBlocking := ⟨by decide +kernel, by decide +kernel, pm_mem 206 (by decide +kernel) (by decide +kernel), pm_mem 45 (by decide +kernel) (by decide +kernel), by decide +kernel, by decide +kernel⟩
theorem kk_D_countAstray : pm_kok km_D_countAstray := ⟨by decide +kernel, by decide +kernel, pm_mem 323 (by decide +kernel) (by decide +kernel), pm_mem 45 (by decide +kernel) (by decide +kernel), by decide +kernel, by decide +kernel⟩
theorem kk_D_isAstray : pm_kok km_D_isAstray := ⟨by decide +kernel, by decide +kernel, pm_mem 327 (by decide +kernel) (by decide +kernel), pm_mem 45 (by decide +kernel) (by decide +kernel), by decide +kernel, by decide +kernel⟩
theorem kk_S_init : pm_kok km_S_init := ⟨by decide +kernel, by decide +kernel, pm_mem 108 (by decide +kernel) (by decide +kernel), pm_mem 46 (by decide +kernel) (by decide +kernel), by decide +kernel, by decide +kernel⟩
theorem kk_S_howMany : pm_kok km_S_howMany := ⟨by decide +kernel, by decide +kernel, pm_mem 222 (by decide +kernel) (by decide +kernel), pm_mem 46 (by decide +kernel) (by decide +kernel), by decide +kernel, by decide +kernel⟩
theorem kk_S_mateInFirst : pm_kok km_S_mateInFirst := ⟨by decide +kernel, by decide +kernel, pm_mem 543 (by decide +kernel) (by decide +kernel), pm_mem 46 (by decide +kernel) (by decide +kernel), by decide +kernel, by decide +kernel⟩
theorem kk_S_howOften : pm_kok km_S_howOften := ⟨by decide +kernel, by decide +kernel, pm_mem 569 (by decide +kernel) (by decide +kernel), pm_mem 46 (by decide +kernel) (by decide +kernel), by decide +kernel, by decide +kernel⟩
theorem kk_S_bestMate : pm_kok km_S_bestMate := ⟨by decide +kernel, by decide +kernel, pm_mem 558 (by decide +kernel) (by decide +kernel), pm_mem 46 (by decide +kernel) (by decide +kernel), by decide +kernel, by decide +kernel⟩
theorem kk_S_worstMate : pm_kok km_S_worstMate := ⟨by decide +kernel, by decide +kernel, pm_mem 554 (by decide +kernel) (by decide +kernel), pm_mem 46 (by decide +kernel) (by decide +kernel), by decide +kernel, by decide +kernel⟩
theorem kk_S_reckon : pm_kok km_S_reckon := ⟨by decide +kernel, by decide +kernel, pm_mem 226 (by decide +kernel) (by decide +kernel), pm_mem 46 (by decide +kernel) (by decide +kernel), by decide +kernel, by decide +kernel⟩
theorem kk_S_search : pm_kok km_S_search := ⟨by decide +kernel, by decide +kernel, pm_mem 234 (by decide +kernel) (by decide +kernel), pm_mem 46 (by decide +kernel) (by decide +kernel), by decide +kernel, by decide +kernel⟩
theorem kk_S_searchWith : pm_kok km_S_searchWith := ⟨by decide +kernel, by decide +kernel, pm_mem 255 (by decide +kernel) (by decide +kernel), pm_mem 46 (by decide +kernel) (by decide +kernel), by decide +kernel, by decide +kernel⟩
theorem kk_S_keep : pm_kok km_S_keep := ⟨by decide +kernel, by decide +kernel, pm_mem 239 (by decide +kernel) (by decide +kernel), pm_mem 46 (by decide +kernel) (by decide +kernel), by decide +kernel, by decide +kernel⟩
theorem kk_P_init : pm_kok km_P_init := ⟨by decide +kernel, by decide +kernel, pm_mem 134 (by decide +kernel) (by decide +kernel), pm_mem 47 (by decide +kernel) (by decide +kernel), by decide +kernel, by decide +kernel⟩
theorem kk_P_oddSize : pm_kok km_P_oddSize := ⟨by decide +kernel, by decide +kernel, pm_mem 580 (by decide +kernel) (by decide +kernel), pm_mem 47 (by decide +kernel) (by decide +kernel), by decide +kernel, by decide +kernel⟩
theorem kk_P_follower : pm_kok km_P_follower := ⟨by decide +kernel, by decide +kernel, pm_mem 591 (by decide +kernel) (by decide +kernel), pm_mem 47 (by decide +kernel) (by decide +kernel), by decide +kernel, by decide +kernel⟩
theorem kk_P_countOdd : pm_kok km_P_countOdd := ⟨by decide +kernel, by decide +kernel, pm_mem 310 (by decide +kernel) (by decide +kernel), pm_mem 47 (by decide +kernel) (by decide +kernel), by decide +kernel, by decide +kernel⟩
theorem kk_P_countOddRings : pm_kok km_P_countOddRings := ⟨by decide +kernel, by decide +kernel, pm_mem 268 (by decide +kernel) (by decide +kernel), pm_mem 47 (by decide +kernel) (by decide +kernel), by decide +kernel, by decide +kernel⟩
theorem kk_P_reckon : pm_kok km_P_reckon := ⟨by decide +kernel, by decide +kernel, pm_mem 272 (by decide +kernel) (by decide +kernel), pm_mem 47 (by decide +kernel) (by decide +kernel), by decide +kernel, by decide +kernel⟩
theorem kk_P_search : pm_kok km_P_search := ⟨by decide +kernel, by decide +kernel, pm_mem 277 (by decide +kernel) (by decide +kernel), pm_mem 47 (by decide +kernel) (by decide +kernel), by decide +kernel, by decide +kernel⟩
theorem kk_P_searchWith : pm_kok km_P_searchWith := ⟨by decide +kernel, by decide +kernel, pm_mem 285 (by decide +kernel) (by decide +kernel), pm_mem 47 (by decide +kernel) (by decide +kernel), by decide +kernel, by decide +kernel⟩
theorem kk_P_keepsOrder : pm_kok km_P_keepsOrder := ⟨by decide +kernel, by decide +kernel, pm_mem 289 (by decide +kernel) (by decide +kernel), pm_mem 47 (by decide +kernel) (by decide +kernel), by decide +kernel, by decide +kernel⟩
theorem kk_P_measureAll : pm_kok km_P_measureAll := ⟨by decide +kernel, by decide +kernel, pm_mem 298 (by decide +kernel) (by decide +kernel), pm_mem 47 (by decide +kernel) (by decide +kernel), by decide +kernel, by decide +kernel⟩
theorem kk_P_sizeRound : pm_kok km_P_sizeRound := ⟨by decide +kernel, by decide +kernel, pm_mem 302 (by decide +kernel) (by decide +kernel), pm_mem 47 (by decide +kernel) (by decide +kernel), by decide +kernel, by decide +kernel⟩
theorem kk_P_countParty : pm_kok km_P_countParty := ⟨by decide +kernel, by decide +kernel, pm_mem 306 (by decide +kernel) (by decide +kernel), pm_mem 47 (by decide +kernel) (by decide +kernel), by decide +kernel, by decide +kernel⟩
theorem kk_M_init : pm_kok km_M_init := ⟨by decide +kernel, by decide +kernel, pm_mem 596 (by decide +kernel) (by decide +kernel), pm_mem 48 (by decide +kernel) (by decide +kernel), by decide +kernel, by decide +kernel⟩
theorem kk_M_thrown : pm_kok km_M_thrown := ⟨by decide +kernel, by decide +kernel, pm_mem 653 (by decide +kernel) (by decide +kernel), pm_mem 48 (by decide +kernel) (by decide +kernel), by decide +kernel, by decide +kernel⟩
theorem kk_M_isPerson : pm_kok km_M_isPerson := ⟨by decide +kernel, by decide +kernel, pm_mem 665 (by decide +kernel) (by decide +kernel), pm_mem 48 (by decide +kernel) (by decide +kernel), by decide +kernel, by decide +kernel⟩
theorem kk_M_placeOf : pm_kok km_M_placeOf := ⟨by decide +kernel, by decide +kernel, pm_mem 669 (by decide +kernel) (by decide +kernel), pm_mem 48 (by decide +kernel) (by decide +kernel), by decide +kernel, by decide +kernel⟩
theorem kk_M_mayBe : pm_kok km_M_mayBe := ⟨by decide +kernel, by decide +kernel, pm_mem 677 (by decide +kernel) (by decide +kernel), pm_mem 48 (by decide +kernel) (by decide +kernel), by decide +kernel, by decide +kernel⟩
theorem kk_M_prefers : pm_kok km_M_prefers := ⟨by decide +kernel, by decide +kernel, pm_mem 717 (by decide +kernel) (by decide +kernel), pm_mem 48 (by decide +kernel) (by decide +kernel), by decide +kernel, by decide +kernel⟩
theorem kk_M_change : pm_kok km_M_change := ⟨by decide +kernel, by decide +kernel, pm_mem 673 (by decide +kernel) (by decide +kernel), pm_mem 48 (by decide +kernel) (by decide +kernel), by decide +kernel, by decide +kernel⟩
theorem kk_M_people : pm_kok km_M_people := ⟨by decide +kernel, by decide +kernel, pm_mem 657 (by decide +kernel) (by decide +kernel), pm_mem 48 (by decide +kernel) (by decide +kernel), by decide +kernel, by decide +kernel⟩
theorem kk_M_put : pm_kok km_M_put := ⟨by decide +kernel, by decide +kernel, pm_mem 661 (by decide +kernel) (by decide +kernel), pm_mem 48 (by decide +kernel) (by decide +kernel), by decide +kernel, by decide +kernel⟩
theorem kk_M_isPlace : pm_kok km_M_isPlace := ⟨by decide +kernel, by decide +kernel, pm_mem 685 (by decide +kernel) (by decide +kernel), pm_mem 48 (by decide +kernel) (by decide +kernel), by decide +kernel, by decide +kernel⟩
theorem kk_M_remove : pm_kok km_M_remove := ⟨by decide +kernel, by decide +kernel, pm_mem 681 (by decide +kernel) (by decide +kernel), pm_mem 48 (by decide +kernel) (by decide +kernel), by decide +kernel, by decide +kernel⟩
theorem kk_M_move : pm_kok km_M_move := ⟨by decide +kernel, by decide +kernel, pm_mem 689 (by decide +kernel) (by decide +kernel), pm_mem 48 (by decide +kernel) (by decide +kernel), by decide +kernel, by decide +kernel⟩
theorem kk_M_at : pm_kok km_M_at := ⟨by decide +kernel, by decide +kernel, pm_mem 693 (by decide +kernel) (by decide +kernel), pm_mem 48 (by decide +kernel) (by decide +kernel), by decide +kernel, by decide +kernel⟩
theorem kk_M_place : pm_kok km_M_place := ⟨by decide +kernel, by decide +kernel, pm_mem 697 (by decide +kernel) (by decide +kernel), pm_mem 48 (by decide +kernel) (by decide +kernel), by decide +kernel, by decide +kernel⟩
theorem kk_M_join : pm_kok km_M_join := ⟨by decide +kernel, by decide +kernel, pm_mem 705 (by decide +kernel) (by decide +kernel), pm_mem 48 (by decide +kernel) (by decide +kernel), by decide +kernel, by decide +kernel⟩
theorem kk_M_blocks : pm_kok km_M_blocks := ⟨by decide +kernel, by decide +kernel, pm_mem 713 (by decide +kernel) (by decide +kernel), pm_mem 48 (by decide +kernel) (by decide +kernel), by decide +kernel, by decide +kernel⟩
theorem kk_M_wouldLeave : pm_kok km_M_wouldLeave := ⟨by decide +kernel, by decide +kernel, pm_mem 757 (by decide +kernel) (by decide +kernel), pm_mem 48 (by decide +kernel) (by decide +kernel), by decide +kernel, by decide +kernel⟩
theorem kk_M_isStable : pm_kok km_M_isStable := ⟨by decide +kernel, by decide +kernel, pm_mem 753 (by decide +kernel) (by decide +kernel), pm_mem 48 (by decide +kernel) (by decide +kernel), by decide +kernel, by decide +kernel⟩
theorem kk_M_blockingOf : pm_kok km_M_blockingOf := ⟨by decide +kernel, by decide +kernel, pm_mem 709 (by decide +kernel) (by decide +kernel), pm_mem 48 (by decide +kernel) (by decide +kernel), by decide +kernel, by decide +kernel⟩
theorem kk_M_pair : pm_kok km_M_pair := ⟨by decide +kernel, by decide +kernel, pm_mem 701 (by decide +kernel) (by decide +kernel), pm_mem 48 (by decide +kernel) (by decide +kernel), by decide +kernel, by decide +kernel⟩
theorem kk_M_partner : pm_kok km_M_partner := ⟨by decide +kernel, by decide +kernel, pm_mem 721 (by decide +kernel) (by decide +kernel), pm_mem 48 (by decide +kernel) (by decide +kernel), by decide +kernel, by decide +kernel⟩
theorem kk_M_blocking : pm_kok km_M_blocking := ⟨by decide +kernel, by decide +kernel, pm_mem 725 (by decide +kernel) (by decide +kernel), pm_mem 48 (by decide +kernel) (by decide +kernel), by decide +kernel, by decide +kernel⟩
theorem kk_M_satisfy : pm_kok km_M_satisfy := ⟨by decide +kernel, by decide +kernel, pm_mem 729 (by decide +kernel) (by decide +kernel), pm_mem 48 (by decide +kernel) (by decide +kernel), by decide +kernel, by decide +kernel⟩
theorem kk_M_chosen : pm_kok km_M_chosen := ⟨by decide +kernel, by decide +kernel, pm_mem 773 (by decide +kernel) (by decide +kernel), pm_mem 48 (by decide +kernel) (by decide +kernel), by decide +kernel, by decide +kernel⟩
theorem kk_M_nextChoice : pm_kok km_M_nextChoice := ⟨by decide +kernel, by decide +kernel, pm_mem 769 (by decide +kernel) (by decide +kernel), pm_mem 48 (by decide +kernel) (by decide +kernel), by decide +kernel, by decide +kernel⟩
theorem kk_M_goes : pm_kok km_M_goes := ⟨by decide +kernel, by decide +kernel, pm_mem 777 (by decide +kernel) (by decide +kernel), pm_mem 48 (by decide +kernel) (by decide +kernel), by decide +kernel, by decide +kernel⟩
theorem kk_M_mayStay : pm_kok km_M_mayStay := ⟨by decide +kernel, by decide +kernel, pm_mem 781 (by decide +kernel) (by decide +kernel), pm_mem 48 (by decide +kernel) (by decide +kernel), by decide +kernel, by decide +kernel⟩
theorem kk_M_forget : pm_kok km_M_forget := ⟨by decide +kernel, by decide +kernel, pm_mem 765 (by decide +kernel) (by decide +kernel), pm_mem 48 (by decide +kernel) (by decide +kernel), by decide +kernel, by decide +kernel⟩
theorem kk_M_goThrough : pm_kok km_M_goThrough := ⟨by decide +kernel, by decide +kernel, pm_mem 741 (by decide +kernel) (by decide +kernel), pm_mem 48 (by decide +kernel) (by decide +kernel), by decide +kernel, by decide +kernel⟩
theorem kk_M_look : pm_kok km_M_look := ⟨by decide +kernel, by decide +kernel, pm_mem 745 (by decide +kernel) (by decide +kernel), pm_mem 48 (by decide +kernel) (by decide +kernel), by decide +kernel, by decide +kernel⟩
theorem kk_M_isPartition : pm_kok km_M_isPartition := ⟨by decide +kernel, by decide +kernel, pm_mem 749 (by decide +kernel) (by decide +kernel), pm_mem 48 (by decide +kernel) (by decide +kernel), by decide +kernel, by decide +kernel⟩
theorem kk_M_takesParties : pm_kok km_M_takesParties := ⟨by decide +kernel, by decide +kernel, pm_mem 761 (by decide +kernel) (by decide +kernel), pm_mem 48 (by decide +kernel) (by decide +kernel), by decide +kernel, by decide +kernel⟩
theorem kk_M_learn : pm_kok km_M_learn := ⟨by decide +kernel, by decide +kernel, pm_mem 737 (by decide +kernel) (by decide +kernel), pm_mem 48 (by decide +kernel) (by decide +kernel), by decide +kernel, by decide +kernel⟩
theorem kk_M_matchings : pm_kok km_M_matchings := ⟨by decide +kernel, by decide +kernel, pm_mem 733 (by decide +kernel) (by decide +kernel), pm_mem 48 (by decide +kernel) (by decide +kernel), by decide +kernel, by decide +kernel⟩
theorem kk_M_matched : pm_kok km_M_matched := ⟨by decide +kernel, by decide +kernel, pm_mem 785 (by decide +kernel) (by decide +kernel), pm_mem 48 (by decide +kernel) (by decide +kernel), by decide +kernel, by decide +kernel⟩
theorem kk_M_extreme : pm_kok km_M_extreme := ⟨by decide +kernel, by decide +kernel, pm_mem 789 (by decide +kernel) (by decide +kernel), pm_mem 48 (by decide +kernel) (by decide +kernel), by decide +kernel, by decide +kernel⟩
theorem kk_M_together : pm_kok km_M_together := ⟨by decide +kernel, by decide +kernel, pm_mem 793 (by decide +kernel) (by decide +kernel), pm_mem 48 (by decide +kernel) (by decide +kernel), by decide +kernel, by decide +kernel⟩
theorem kk_M_party : pm_kok km_M_party := ⟨by decide +kernel, by decide +kernel, pm_mem 797 (by decide +kernel) (by decide +kernel), pm_mem 48 (by decide +kernel) (by decide +kernel), by decide +kernel, by decide +kernel⟩
theorem kk_M_next : pm_kok km_M_next := ⟨by decide +kernel, by decide +kernel, pm_mem 801 (by decide +kernel) (by decide +kernel), pm_mem 48 (by decide +kernel) (by decide +kernel), by decide +kernel, by decide +kernel⟩
theorem kk_M_parties : pm_kok km_M_parties := ⟨by decide +kernel, by decide +kernel, pm_mem 805 (by decide +kernel) (by decide +kernel), pm_mem 48 (by decide +kernel) (by decide +kernel), by decide +kernel, by decide +kernel⟩
theorem kk_M_size : pm_kok km_M_size := ⟨by decide +kernel, by decide +kernel, pm_mem 809 (by decide +kernel) (by decide +kernel), pm_mem 48 (by decide +kernel) (by decide +kernel), by decide +kernel, by decide +kernel⟩
theorem kk_M_astray : pm_kok km_M_astray := ⟨by decide +kernel, by decide +kernel, pm_mem 813 (by decide +kernel) (by decide +kernel), pm_mem 48 (by decide +kernel) (by decide +kernel), by decide +kernel, by decide +kernel⟩
theorem kk_L_people : pm_kok km_L_people := ⟨by decide +kernel, by decide +kernel, pm_mem 331 (by decide +kernel) (by decide +kernel), pm_mem 42 (by decide +kernel) (by decide +kernel), by decide +kernel, by decide +kernel⟩
theorem kk_L_put : pm_kok km_L_put := ⟨by decide +kernel, by decide +kernel, pm_mem 402 (by decide +kernel) (by decide +kernel), pm_mem 42 (by decide +kernel) (by decide +kernel), by decide +kernel, by decide +kernel⟩
theorem kk_L_remove : pm_kok km_L_remove := ⟨by decide +kernel, by decide +kernel, pm_mem 466 (by decide +kernel) (by decide +kernel), pm_mem 42 (by decide +kernel) (by decide +kernel), by decide +kernel, by decide +kernel⟩
theorem kk_L_move : pm_kok km_L_move := ⟨by decide +kernel, by decide +kernel, pm_mem 490 (by decide +kernel) (by decide +kernel), pm_mem 42 (by decide +kernel) (by decide +kernel), by decide +kernel, by decide +kernel⟩
theorem kk_L_at : pm_kok km_L_at := ⟨by decide +kernel, by decide +kernel, pm_mem 501 (by decide +kernel) (by decide +kernel), pm_mem 42 (by decide +kernel) (by decide +kernel), by decide +kernel, by decide +kernel⟩
theorem kk_L_place : pm_kok km_L_place := ⟨by decide +kernel, by decide +kernel, pm_mem 508 (by decide +kernel) (by decide +kernel), pm_mem 42 (by decide +kernel) (by decide +kernel), by decide +kernel, by decide +kernel⟩
theorem kk_L_pair : pm_kok km_L_pair := ⟨by decide +kernel, by decide +kernel, pm_mem 515 (by decide +kernel) (by decide +kernel), pm_mem 42 (by decide +kernel) (by decide +kernel), by decide +kernel, by decide +kernel⟩
theorem kk_L_partner : pm_kok km_L_partner := ⟨by decide +kernel, by decide +kernel, pm_mem 524 (by decide +kernel) (by decide +kernel), pm_mem 42 (by decide +kernel) (by decide +kernel), by decide +kernel, by decide +kernel⟩
theorem kk_L_matched : pm_kok km_L_matched := ⟨by decide +kernel, by decide +kernel, pm_mem 535 (by decide +kernel) (by decide +kernel), pm_mem 42 (by decide +kernel) (by decide +kernel), by decide +kernel, by decide +kernel⟩
theorem kk_L_extreme : pm_kok km_L_extreme := ⟨by decide +kernel, by decide +kernel, pm_mem 546 (by decide +kernel) (by decide +kernel), pm_mem 42 (by decide +kernel) (by decide +kernel), by decide +kernel, by decide +kernel⟩
theorem kk_L_together : pm_kok km_L_together := ⟨by decide +kernel, by decide +kernel, pm_mem 561 (by decide +kernel) (by decide +kernel), pm_mem 42 (by decide +kernel) (by decide +kernel), by decide +kernel, by decide +kernel⟩
theorem kk_L_party : pm_kok km_L_party := ⟨by decide +kernel, by decide +kernel, pm_mem 572 (by decide +kernel) (by decide +kernel), pm_mem 42 (by decide +kernel) (by decide +kernel), by decide +kernel, by decide +kernel⟩
theorem kk_L_next : pm_kok km_L_next := ⟨by decide +kernel, by decide +kernel, pm_mem 583 (by decide +kernel) (by decide +kernel), pm_mem 42 (by decide +kernel) (by decide +kernel), by decide +kernel, by decide +kernel⟩
end
section
/-! fields, by the pools' entries -/
theorem hf_D_9 : pm_F "RoommateHouse$Draft" 9 2 1 := ⟨_, pm_T2, rfl, by decide, rfl, pm_mem 98 (by decide +kernel) (by decide +kernel), pm_uw2⟩
theorem hf_D_15 : pm_F "RoommateHouse$Draft" 15 2 0 := ⟨_, pm_T2, rfl, by decide, rfl, pm_mem 97 (by decide +kernel) (by decide +kernel), pm_uw2⟩
theorem hf_H_10 : pm_F "RoommateHouse" 10 0 0 := ⟨_, pm_T0, rfl, by decide, rfl, pm_mem 170 (by decide +kernel) (by decide +kernel), pm_uw0⟩
theorem hf_H_21 : pm_F "RoommateHouse" 21 0 1 := ⟨_, pm_T0, rfl, by decide, rfl, pm_mem 171 (by decide +kernel) (by decide +kernel), pm_uw0⟩
theorem hf_H_28 : pm_F "RoommateHouse" 28 0 2 := ⟨_, pm_T0, rfl, by decide, rfl, pm_mem 172 (by decide +kernel) (by decide +kernel), pm_uw0⟩
theorem hf_H_35 : pm_F "RoommateHouse" 35 0 3 := ⟨_, pm_T0, rfl, by decide, rfl, pm_mem 173 (by decide +kernel) (by decide +kernel), pm_uw0⟩
theorem hf_M_7 : pm_F "RoommateHouseModel" 7 5 2 := ⟨_, pm_T5, rfl, by decide, rfl, pm_mem 600 (by decide +kernel) (by decide +kernel), pm_uw5⟩
theorem hf_M_13 : pm_F "RoommateHouseModel" 13 5 3 := ⟨_, pm_T5, rfl, by decide, rfl, pm_mem 601 (by decide +kernel) (by decide +kernel), pm_uw5⟩
theorem hf_M_16 : pm_F "RoommateHouseModel" 16 5 4 := ⟨_, pm_T5, rfl, by decide, rfl, pm_mem 602 (by decide +kernel) (by decide +kernel), pm_uw5⟩
theorem hf_M_19 : pm_F "RoommateHouseModel" 19 5 7 := ⟨_, pm_T5, rfl, by decide, rfl, pm_mem 605 (by decide +kernel) (by decide +kernel), pm_uw5⟩
theorem hf_M_22 : pm_F "RoommateHouseModel" 22 5 8 := ⟨_, pm_T5, rfl, by decide, rfl, pm_mem 606 (by decide +kernel) (by decide +kernel), pm_uw5⟩
theorem hf_M_25 : pm_F "RoommateHouseModel" 25 5 9 := ⟨_, pm_T5, rfl, by decide, rfl, pm_mem 607 (by decide +kernel) (by decide +kernel), pm_uw5⟩
theorem hf_M_28 : pm_F "RoommateHouseModel" 28 5 10 := ⟨_, pm_T5, rfl, by decide, rfl, pm_mem 608 (by decide +kernel) (by decide +kernel), pm_uw5⟩
theorem hf_M_31 : pm_F "RoommateHouseModel" 31 5 13 := ⟨_, pm_T5, rfl, by decide, rfl, pm_mem 611 (by decide +kernel) (by decide +kernel), pm_uw5⟩
theorem hf_M_34 : pm_F "RoommateHouseModel" 34 5 14 := ⟨_, pm_T5, rfl, by decide, rfl, pm_mem 612 (by decide +kernel) (by decide +kernel), pm_uw5⟩
theorem hf_M_37 : pm_F "RoommateHouseModel" 37 5 15 := ⟨_, pm_T5, rfl, by decide, rfl, pm_mem 613 (by decide +kernel) (by decide +kernel), pm_uw5⟩
theorem hf_M_40 : pm_F "RoommateHouseModel" 40 5 16 := ⟨_, pm_T5, rfl, by decide, rfl, pm_mem 614 (by decide +kernel) (by decide +kernel), pm_uw5⟩
theorem hf_M_43 : pm_F "RoommateHouseModel" 43 5 0 := ⟨_, pm_T5, rfl, by decide, rfl, pm_mem 598 (by decide +kernel) (by decide +kernel), pm_uw5⟩
theorem hf_M_47 : pm_F "RoommateHouseModel" 47 5 1 := ⟨_, pm_T5, rfl, by decide, rfl, pm_mem 599 (by decide +kernel) (by decide +kernel), pm_uw5⟩
theorem hf_M_58 : pm_F "RoommateHouseModel" 58 5 5 := ⟨_, pm_T5, rfl, by decide, rfl, pm_mem 603 (by decide +kernel) (by decide +kernel), pm_uw5⟩
theorem hf_M_124 : pm_F "RoommateHouseModel" 124 5 6 := ⟨_, pm_T5, rfl, by decide, rfl, pm_mem 604 (by decide +kernel) (by decide +kernel), pm_uw5⟩
theorem hf_M_131 : pm_F "RoommateHouseModel" 131 5 11 := ⟨_, pm_T5, rfl, by decide, rfl, pm_mem 609 (by decide +kernel) (by decide +kernel), pm_uw5⟩
theorem hf_M_134 : pm_F "RoommateHouseModel" 134 5 12 := ⟨_, pm_T5, rfl, by decide, rfl, pm_mem 610 (by decide +kernel) (by decide +kernel), pm_uw5⟩
theorem hf_P_9 : pm_F "RoommateHouse$Partition" 9 4 1 := ⟨_, pm_T4, rfl, by decide, rfl, pm_mem 137 (by decide +kernel) (by decide +kernel), pm_uw4⟩
theorem hf_P_15 : pm_F "RoommateHouse$Partition" 15 4 2 := ⟨_, pm_T4, rfl, by decide, rfl, pm_mem 138 (by decide +kernel) (by decide +kernel), pm_uw4⟩
theorem hf_P_18 : pm_F "RoommateHouse$Partition" 18 4 3 := ⟨_, pm_T4, rfl, by decide, rfl, pm_mem 139 (by decide +kernel) (by decide +kernel), pm_uw4⟩
theorem hf_P_21 : pm_F "RoommateHouse$Partition" 21 4 6 := ⟨_, pm_T4, rfl, by decide, rfl, pm_mem 142 (by decide +kernel) (by decide +kernel), pm_uw4⟩
theorem hf_P_25 : pm_F "RoommateHouse$Partition" 25 4 0 := ⟨_, pm_T4, rfl, by decide, rfl, pm_mem 136 (by decide +kernel) (by decide +kernel), pm_uw4⟩
theorem hf_P_32 : pm_F "RoommateHouse$Partition" 32 4 4 := ⟨_, pm_T4, rfl, by decide, rfl, pm_mem 140 (by decide +kernel) (by decide +kernel), pm_uw4⟩
theorem hf_P_35 : pm_F "RoommateHouse$Partition" 35 4 5 := ⟨_, pm_T4, rfl, by decide, rfl, pm_mem 141 (by decide +kernel) (by decide +kernel), pm_uw4⟩
theorem hf_S_9 : pm_F "RoommateHouse$StableMatchings" 9 3 1 := ⟨_, pm_T3, rfl, by decide, rfl, pm_mem 112 (by decide +kernel) (by decide +kernel), pm_uw3⟩
theorem hf_S_15 : pm_F "RoommateHouse$StableMatchings" 15 3 2 := ⟨_, pm_T3, rfl, by decide, rfl, pm_mem 113 (by decide +kernel) (by decide +kernel), pm_uw3⟩
theorem hf_S_20 : pm_F "RoommateHouse$StableMatchings" 20 3 3 := ⟨_, pm_T3, rfl, by decide, rfl, pm_mem 114 (by decide +kernel) (by decide +kernel), pm_uw3⟩
theorem hf_S_23 : pm_F "RoommateHouse$StableMatchings" 23 3 5 := ⟨_, pm_T3, rfl, by decide, rfl, pm_mem 116 (by decide +kernel) (by decide +kernel), pm_uw3⟩
theorem hf_S_27 : pm_F "RoommateHouse$StableMatchings" 27 3 0 := ⟨_, pm_T3, rfl, by decide, rfl, pm_mem 111 (by decide +kernel) (by decide +kernel), pm_uw3⟩
theorem hf_S_34 : pm_F "RoommateHouse$StableMatchings" 34 3 4 := ⟨_, pm_T3, rfl, by decide, rfl, pm_mem 115 (by decide +kernel) (by decide +kernel), pm_uw3⟩
theorem hf_W_9 : pm_F "RoommateHouse$Wishes" 9 1 0 := ⟨_, pm_T1, rfl, by decide, rfl, pm_mem 71 (by decide +kernel) (by decide +kernel), pm_uw1⟩
theorem hf_W_17 : pm_F "RoommateHouse$Wishes" 17 1 1 := ⟨_, pm_T1, rfl, by decide, rfl, pm_mem 72 (by decide +kernel) (by decide +kernel), pm_uw1⟩
theorem hf_W_20 : pm_F "RoommateHouse$Wishes" 20 1 2 := ⟨_, pm_T1, rfl, by decide, rfl, pm_mem 73 (by decide +kernel) (by decide +kernel), pm_uw1⟩
theorem hf_W_23 : pm_F "RoommateHouse$Wishes" 23 1 3 := ⟨_, pm_T1, rfl, by decide, rfl, pm_mem 74 (by decide +kernel) (by decide +kernel), pm_uw1⟩
theorem hf_W_26 : pm_F "RoommateHouse$Wishes" 26 1 4 := ⟨_, pm_T1, rfl, by decide, rfl, pm_mem 75 (by decide +kernel) (by decide +kernel), pm_uw1⟩
theorem hf_W_30 : pm_F "RoommateHouse$Wishes" 30 1 5 := ⟨_, pm_T1, rfl, by decide, rfl, pm_mem 76 (by decide +kernel) (by decide +kernel), pm_uw1⟩
theorem hp_D_9 : pm_FP "RoommateHouse$Draft" 9 2 1 (.array .int) true := ⟨_, pm_T2, pm_ty2, rfl, by decide, rfl, pm_mem 98 (by decide +kernel) (by decide +kernel), pm_uw2, pm_tyo2, pm_nm2, rfl, by decide +kernel⟩
theorem hp_D_15 : pm_FP "RoommateHouse$Draft" 15 2 0 (.object "RoommateHouse$Wishes") true := ⟨_, pm_T2, pm_ty2, rfl, by decide, rfl, pm_mem 97 (by decide +kernel) (by decide +kernel), pm_uw2, pm_tyo2, pm_nm2, rfl, by decide +kernel⟩
theorem hp_H_10 : pm_FP "RoommateHouse" 10 0 0 (.object "RoommateHouse$Wishes") true := ⟨_, pm_T0, pm_ty0, rfl, by decide, rfl, pm_mem 170 (by decide +kernel) (by decide +kernel), pm_uw0, pm_tyo0, pm_nm0, rfl, by decide +kernel⟩
theorem hp_H_21 : pm_FP "RoommateHouse" 21 0 1 (.object "RoommateHouse$Draft") true := ⟨_, pm_T0, pm_ty0, rfl, by decide, rfl, pm_mem 171 (by decide +kernel) (by decide +kernel), pm_uw0, pm_tyo0, pm_nm0, rfl, by decide +kernel⟩
theorem hp_H_28 : pm_FP "RoommateHouse" 28 0 2 (.object "RoommateHouse$StableMatchings") true := ⟨_, pm_T0, pm_ty0, rfl, by decide, rfl, pm_mem 172 (by decide +kernel) (by decide +kernel), pm_uw0, pm_tyo0, pm_nm0, rfl, by decide +kernel⟩
theorem hp_H_35 : pm_FP "RoommateHouse" 35 0 3 (.object "RoommateHouse$Partition") true := ⟨_, pm_T0, pm_ty0, rfl, by decide, rfl, pm_mem 173 (by decide +kernel) (by decide +kernel), pm_uw0, pm_tyo0, pm_nm0, rfl, by decide +kernel⟩
theorem hp_M_7 : pm_FP "RoommateHouseModel" 7 5 2 (.array .int) true := ⟨_, pm_T5, pm_ty5, rfl, by decide, rfl, pm_mem 600 (by decide +kernel) (by decide +kernel), pm_uw5, pm_tyo5, pm_nm5, rfl, by decide +kernel⟩
theorem hp_M_13 : pm_FP "RoommateHouseModel" 13 5 3 (.array .int) true := ⟨_, pm_T5, pm_ty5, rfl, by decide, rfl, pm_mem 601 (by decide +kernel) (by decide +kernel), pm_uw5, pm_tyo5, pm_nm5, rfl, by decide +kernel⟩
theorem hp_M_16 : pm_FP "RoommateHouseModel" 16 5 4 (.array .int) true := ⟨_, pm_T5, pm_ty5, rfl, by decide, rfl, pm_mem 602 (by decide +kernel) (by decide +kernel), pm_uw5, pm_tyo5, pm_nm5, rfl, by decide +kernel⟩
theorem hp_M_19 : pm_FP "RoommateHouseModel" 19 5 7 (.array .int) true := ⟨_, pm_T5, pm_ty5, rfl, by decide, rfl, pm_mem 605 (by decide +kernel) (by decide +kernel), pm_uw5, pm_tyo5, pm_nm5, rfl, by decide +kernel⟩
theorem hp_M_22 : pm_FP "RoommateHouseModel" 22 5 8 (.array .int) true := ⟨_, pm_T5, pm_ty5, rfl, by decide, rfl, pm_mem 606 (by decide +kernel) (by decide +kernel), pm_uw5, pm_tyo5, pm_nm5, rfl, by decide +kernel⟩
theorem hp_M_25 : pm_FP "RoommateHouseModel" 25 5 9 (.array .int) true := ⟨_, pm_T5, pm_ty5, rfl, by decide, rfl, pm_mem 607 (by decide +kernel) (by decide +kernel), pm_uw5, pm_tyo5, pm_nm5, rfl, by decide +kernel⟩
theorem hp_M_28 : pm_FP "RoommateHouseModel" 28 5 10 (.array .int) true := ⟨_, pm_T5, pm_ty5, rfl, by decide, rfl, pm_mem 608 (by decide +kernel) (by decide +kernel), pm_uw5, pm_tyo5, pm_nm5, rfl, by decide +kernel⟩
theorem hp_M_31 : pm_FP "RoommateHouseModel" 31 5 13 (.array .int) true := ⟨_, pm_T5, pm_ty5, rfl, by decide, rfl, pm_mem 611 (by decide +kernel) (by decide +kernel), pm_uw5, pm_tyo5, pm_nm5, rfl, by decide +kernel⟩
theorem hp_M_34 : pm_FP "RoommateHouseModel" 34 5 14 (.array .int) true := ⟨_, pm_T5, pm_ty5, rfl, by decide, rfl, pm_mem 612 (by decide +kernel) (by decide +kernel), pm_uw5, pm_tyo5, pm_nm5, rfl, by decide +kernel⟩
theorem hp_M_37 : pm_FP "RoommateHouseModel" 37 5 15 (.array .int) true := ⟨_, pm_T5, pm_ty5, rfl, by decide, rfl, pm_mem 613 (by decide +kernel) (by decide +kernel), pm_uw5, pm_tyo5, pm_nm5, rfl, by decide +kernel⟩
theorem hp_M_40 : pm_FP "RoommateHouseModel" 40 5 16 (.array .int) true := ⟨_, pm_T5, pm_ty5, rfl, by decide, rfl, pm_mem 614 (by decide +kernel) (by decide +kernel), pm_uw5, pm_tyo5, pm_nm5, rfl, by decide +kernel⟩
theorem hp_M_43 : pm_FP "RoommateHouseModel" 43 5 0 (.int) false := ⟨_, pm_T5, pm_ty5, rfl, by decide, rfl, pm_mem 598 (by decide +kernel) (by decide +kernel), pm_uw5, pm_tyo5, pm_nm5, rfl, by decide +kernel⟩
theorem hp_M_47 : pm_FP "RoommateHouseModel" 47 5 1 (.int) false := ⟨_, pm_T5, pm_ty5, rfl, by decide, rfl, pm_mem 599 (by decide +kernel) (by decide +kernel), pm_uw5, pm_tyo5, pm_nm5, rfl, by decide +kernel⟩
theorem hp_M_58 : pm_FP "RoommateHouseModel" 58 5 5 (.boolean) false := ⟨_, pm_T5, pm_ty5, rfl, by decide, rfl, pm_mem 603 (by decide +kernel) (by decide +kernel), pm_uw5, pm_tyo5, pm_nm5, rfl, by decide +kernel⟩
theorem hp_M_124 : pm_FP "RoommateHouseModel" 124 5 6 (.int) false := ⟨_, pm_T5, pm_ty5, rfl, by decide, rfl, pm_mem 604 (by decide +kernel) (by decide +kernel), pm_uw5, pm_tyo5, pm_nm5, rfl, by decide +kernel⟩
theorem hp_M_131 : pm_FP "RoommateHouseModel" 131 5 11 (.int) false := ⟨_, pm_T5, pm_ty5, rfl, by decide, rfl, pm_mem 609 (by decide +kernel) (by decide +kernel), pm_uw5, pm_tyo5, pm_nm5, rfl, by decide +kernel⟩
theorem hp_M_134 : pm_FP "RoommateHouseModel" 134 5 12 (.int) false := ⟨_, pm_T5, pm_ty5, rfl, by decide, rfl, pm_mem 610 (by decide +kernel) (by decide +kernel), pm_uw5, pm_tyo5, pm_nm5, rfl, by decide +kernel⟩
theorem hp_P_9 : pm_FP "RoommateHouse$Partition" 9 4 1 (.array .int) true := ⟨_, pm_T4, pm_ty4, rfl, by decide, rfl, pm_mem 137 (by decide +kernel) (by decide +kernel), pm_uw4, pm_tyo4, pm_nm4, rfl, by decide +kernel⟩
theorem hp_P_15 : pm_FP "RoommateHouse$Partition" 15 4 2 (.array .int) true := ⟨_, pm_T4, pm_ty4, rfl, by decide, rfl, pm_mem 138 (by decide +kernel) (by decide +kernel), pm_uw4, pm_tyo4, pm_nm4, rfl, by decide +kernel⟩
theorem hp_P_18 : pm_FP "RoommateHouse$Partition" 18 4 3 (.array .int) true := ⟨_, pm_T4, pm_ty4, rfl, by decide, rfl, pm_mem 139 (by decide +kernel) (by decide +kernel), pm_uw4, pm_tyo4, pm_nm4, rfl, by decide +kernel⟩
theorem hp_P_21 : pm_FP "RoommateHouse$Partition" 21 4 6 (.int) false := ⟨_, pm_T4, pm_ty4, rfl, by decide, rfl, pm_mem 142 (by decide +kernel) (by decide +kernel), pm_uw4, pm_tyo4, pm_nm4, rfl, by decide +kernel⟩
theorem hp_P_25 : pm_FP "RoommateHouse$Partition" 25 4 0 (.object "RoommateHouse$Wishes") true := ⟨_, pm_T4, pm_ty4, rfl, by decide, rfl, pm_mem 136 (by decide +kernel) (by decide +kernel), pm_uw4, pm_tyo4, pm_nm4, rfl, by decide +kernel⟩
theorem hp_P_32 : pm_FP "RoommateHouse$Partition" 32 4 4 (.int) false := ⟨_, pm_T4, pm_ty4, rfl, by decide, rfl, pm_mem 140 (by decide +kernel) (by decide +kernel), pm_uw4, pm_tyo4, pm_nm4, rfl, by decide +kernel⟩
theorem hp_P_35 : pm_FP "RoommateHouse$Partition" 35 4 5 (.int) false := ⟨_, pm_T4, pm_ty4, rfl, by decide, rfl, pm_mem 141 (by decide +kernel) (by decide +kernel), pm_uw4, pm_tyo4, pm_nm4, rfl, by decide +kernel⟩
theorem hp_S_9 : pm_FP "RoommateHouse$StableMatchings" 9 3 1 (.array .int) true := ⟨_, pm_T3, pm_ty3, rfl, by decide, rfl, pm_mem 112 (by decide +kernel) (by decide +kernel), pm_uw3, pm_tyo3, pm_nm3, rfl, by decide +kernel⟩
theorem hp_S_15 : pm_FP "RoommateHouse$StableMatchings" 15 3 2 (.array .int) true := ⟨_, pm_T3, pm_ty3, rfl, by decide, rfl, pm_mem 113 (by decide +kernel) (by decide +kernel), pm_uw3, pm_tyo3, pm_nm3, rfl, by decide +kernel⟩
theorem hp_S_20 : pm_FP "RoommateHouse$StableMatchings" 20 3 3 (.array (.array .int)) true := ⟨_, pm_T3, pm_ty3, rfl, by decide, rfl, pm_mem 114 (by decide +kernel) (by decide +kernel), pm_uw3, pm_tyo3, pm_nm3, rfl, by decide +kernel⟩
theorem hp_S_23 : pm_FP "RoommateHouse$StableMatchings" 23 3 5 (.int) false := ⟨_, pm_T3, pm_ty3, rfl, by decide, rfl, pm_mem 116 (by decide +kernel) (by decide +kernel), pm_uw3, pm_tyo3, pm_nm3, rfl, by decide +kernel⟩
theorem hp_S_27 : pm_FP "RoommateHouse$StableMatchings" 27 3 0 (.object "RoommateHouse$Wishes") true := ⟨_, pm_T3, pm_ty3, rfl, by decide, rfl, pm_mem 111 (by decide +kernel) (by decide +kernel), pm_uw3, pm_tyo3, pm_nm3, rfl, by decide +kernel⟩
theorem hp_S_34 : pm_FP "RoommateHouse$StableMatchings" 34 3 4 (.int) false := ⟨_, pm_T3, pm_ty3, rfl, by decide, rfl, pm_mem 115 (by decide +kernel) (by decide +kernel), pm_uw3, pm_tyo3, pm_nm3, rfl, by decide +kernel⟩
theorem hp_W_9 : pm_FP "RoommateHouse$Wishes" 9 1 0 (.array .int) true := ⟨_, pm_T1, pm_ty1, rfl, by decide, rfl, pm_mem 71 (by decide +kernel) (by decide +kernel), pm_uw1, pm_tyo1, pm_nm1, rfl, by decide +kernel⟩
theorem hp_W_17 : pm_FP "RoommateHouse$Wishes" 17 1 1 (.array (.array .int)) true := ⟨_, pm_T1, pm_ty1, rfl, by decide, rfl, pm_mem 72 (by decide +kernel) (by decide +kernel), pm_uw1, pm_tyo1, pm_nm1, rfl, by decide +kernel⟩
theorem hp_W_20 : pm_FP "RoommateHouse$Wishes" 20 1 2 (.array (.array .int)) true := ⟨_, pm_T1, pm_ty1, rfl, by decide, rfl, pm_mem 73 (by decide +kernel) (by decide +kernel), pm_uw1, pm_tyo1, pm_nm1, rfl, by decide +kernel⟩
theorem hp_W_23 : pm_FP "RoommateHouse$Wishes" 23 1 3 (.array (.array .int)) true := ⟨_, pm_T1, pm_ty1, rfl, by decide, rfl, pm_mem 74 (by decide +kernel) (by decide +kernel), pm_uw1, pm_tyo1, pm_nm1, rfl, by decide +kernel⟩
theorem hp_W_26 : pm_FP "RoommateHouse$Wishes" 26 1 4 (.int) false := ⟨_, pm_T1, pm_ty1, rfl, by decide, rfl, pm_mem 75 (by decide +kernel) (by decide +kernel), pm_uw1, pm_tyo1, pm_nm1, rfl, by decide +kernel⟩
theorem hp_W_30 : pm_FP "RoommateHouse$Wishes" 30 1 5 (.int) false := ⟨_, pm_T1, pm_ty1, rfl, by decide, rfl, pm_mem 76 (by decide +kernel) (by decide +kernel), pm_uw1, pm_tyo1, pm_nm1, rfl, by decide +kernel⟩
end
section
/-! calls, by the pools' entries -/
theorem hc_D_19 : pm_CV "RoommateHouse$Draft" 19 km_D_makeSingle 1 := ⟨pm_mem 211 (by decide +kernel) (by decide +kernel), pm_mem 213 (by decide +kernel) (by decide +kernel), pm_mem 1 (by decide +kernel) (by decide +kernel), by decide +kernel, kk_D_makeSingle, rfl⟩
theorem hc_D_23 : pm_CV "RoommateHouse$Draft" 23 km_W_arePossible 2 := ⟨pm_mem 328 (by decide +kernel) (by decide +kernel), pm_mem 249 (by decide +kernel) (by decide +kernel), pm_mem 250 (by decide +kernel) (by decide +kernel), by decide +kernel, kk_W_arePossible, rfl⟩
theorem hc_D_29 : pm_CV "RoommateHouse$Draft" 29 km_W_count 0 := ⟨pm_mem 191 (by decide +kernel) (by decide +kernel), pm_mem 192 (by decide +kernel) (by decide +kernel), pm_mem 193 (by decide +kernel) (by decide +kernel), by decide +kernel, kk_W_count, rfl⟩
theorem hc_D_33 : pm_CV "RoommateHouse$Draft" 33 km_W_wouldBlock 3 := ⟨pm_mem 195 (by decide +kernel) (by decide +kernel), pm_mem 196 (by decide +kernel) (by decide +kernel), pm_mem 197 (by decide +kernel) (by decide +kernel), by decide +kernel, kk_W_wouldBlock, rfl⟩
theorem hc_D_37 : pm_CV "RoommateHouse$Draft" 37 km_D_join 2 := ⟨pm_mem 207 (by decide +kernel) (by decide +kernel), pm_mem 208 (by decide +kernel) (by decide +kernel), pm_mem 209 (by decide +kernel) (by decide +kernel), by decide +kernel, kk_D_join, rfl⟩
theorem hc_D_41 : pm_CV "RoommateHouse$Draft" 41 km_D_isAstray 1 := ⟨pm_mem 324 (by decide +kernel) (by decide +kernel), pm_mem 326 (by decide +kernel) (by decide +kernel), pm_mem 13 (by decide +kernel) (by decide +kernel), by decide +kernel, kk_D_isAstray, rfl⟩
theorem hc_H_39 : pm_CV "RoommateHouse" 39 km_H_startWith 1 := ⟨pm_mem 158 (by decide +kernel) (by decide +kernel), pm_mem 160 (by decide +kernel) (by decide +kernel), pm_mem 0 (by decide +kernel) (by decide +kernel), by decide +kernel, kk_H_startWith, rfl⟩
theorem hc_H_46 : pm_CV "RoommateHouse" 46 km_W_count 0 := ⟨pm_mem 315 (by decide +kernel) (by decide +kernel), pm_mem 192 (by decide +kernel) (by decide +kernel), pm_mem 193 (by decide +kernel) (by decide +kernel), by decide +kernel, kk_W_count, rfl⟩
theorem hc_H_50 : pm_CV "RoommateHouse" 50 km_H_demandPersons 2 := ⟨pm_mem 409 (by decide +kernel) (by decide +kernel), pm_mem 411 (by decide +kernel) (by decide +kernel), pm_mem 15 (by decide +kernel) (by decide +kernel), by decide +kernel, kk_H_demandPersons, rfl⟩
theorem hc_H_54 : pm_CV "RoommateHouse" 54 km_W_placeOf 2 := ⟨pm_mem 432 (by decide +kernel) (by decide +kernel), pm_mem 433 (by decide +kernel) (by decide +kernel), pm_mem 434 (by decide +kernel) (by decide +kernel), by decide +kernel, kk_W_placeOf, rfl⟩
theorem hc_H_61 : pm_CV "RoommateHouse" 61 km_W_append 2 := ⟨pm_mem 451 (by decide +kernel) (by decide +kernel), pm_mem 452 (by decide +kernel) (by decide +kernel), pm_mem 453 (by decide +kernel) (by decide +kernel), by decide +kernel, kk_W_append, rfl⟩
theorem hc_H_64 : pm_CV "RoommateHouse" 64 km_W_length 1 := ⟨pm_mem 463 (by decide +kernel) (by decide +kernel), pm_mem 241 (by decide +kernel) (by decide +kernel), pm_mem 242 (by decide +kernel) (by decide +kernel), by decide +kernel, kk_W_length, rfl⟩
theorem hc_H_68 : pm_CV "RoommateHouse" 68 km_H_demandPerson 1 := ⟨pm_mem 413 (by decide +kernel) (by decide +kernel), pm_mem 415 (by decide +kernel) (by decide +kernel), pm_mem 16 (by decide +kernel) (by decide +kernel), by decide +kernel, kk_H_demandPerson, rfl⟩
theorem hc_H_71 : pm_CV "RoommateHouse" 71 km_H_demandPlace 2 := ⟨pm_mem 471 (by decide +kernel) (by decide +kernel), pm_mem 473 (by decide +kernel) (by decide +kernel), pm_mem 19 (by decide +kernel) (by decide +kernel), by decide +kernel, kk_H_demandPlace, rfl⟩
theorem hc_H_74 : pm_CV "RoommateHouse" 74 km_W_otherAt 2 := ⟨pm_mem 475 (by decide +kernel) (by decide +kernel), pm_mem 245 (by decide +kernel) (by decide +kernel), pm_mem 246 (by decide +kernel) (by decide +kernel), by decide +kernel, kk_W_otherAt, rfl⟩
theorem hc_H_77 : pm_CV "RoommateHouse" 77 km_W_cut 2 := ⟨pm_mem 476 (by decide +kernel) (by decide +kernel), pm_mem 477 (by decide +kernel) (by decide +kernel), pm_mem 478 (by decide +kernel) (by decide +kernel), by decide +kernel, kk_W_cut, rfl⟩
theorem hc_H_80 : pm_CV "RoommateHouse" 80 km_D_partIfNotPossible 2 := ⟨pm_mem 484 (by decide +kernel) (by decide +kernel), pm_mem 485 (by decide +kernel) (by decide +kernel), pm_mem 486 (by decide +kernel) (by decide +kernel), by decide +kernel, kk_D_partIfNotPossible, rfl⟩
theorem hc_H_83 : pm_CV "RoommateHouse" 83 km_W_shift 3 := ⟨pm_mem 495 (by decide +kernel) (by decide +kernel), pm_mem 496 (by decide +kernel) (by decide +kernel), pm_mem 497 (by decide +kernel) (by decide +kernel), by decide +kernel, kk_W_shift, rfl⟩
theorem hc_H_90 : pm_CV "RoommateHouse" 90 km_W_arePossible 2 := ⟨pm_mem 520 (by decide +kernel) (by decide +kernel), pm_mem 249 (by decide +kernel) (by decide +kernel), pm_mem 250 (by decide +kernel) (by decide +kernel), by decide +kernel, kk_W_arePossible, rfl⟩
theorem hc_H_94 : pm_CV "RoommateHouse" 94 km_D_join 2 := ⟨pm_mem 521 (by decide +kernel) (by decide +kernel), pm_mem 208 (by decide +kernel) (by decide +kernel), pm_mem 209 (by decide +kernel) (by decide +kernel), by decide +kernel, kk_D_join, rfl⟩
theorem hc_H_97 : pm_CV "RoommateHouse" 97 km_D_countBlocking 0 := ⟨pm_mem 187 (by decide +kernel) (by decide +kernel), pm_mem 188 (by decide +kernel) (by decide +kernel), pm_mem 189 (by decide +kernel) (by decide +kernel), by decide +kernel, kk_D_countBlocking, rfl⟩
theorem hc_H_100 : pm_CV "RoommateHouse" 100 km_D_mateOf 1 := ⟨pm_mem 529 (by decide +kernel) (by decide +kernel), pm_mem 530 (by decide +kernel) (by decide +kernel), pm_mem 531 (by decide +kernel) (by decide +kernel), by decide +kernel, kk_D_mateOf, rfl⟩
theorem hc_H_103 : pm_CV "RoommateHouse" 103 km_D_joinFirstBlocking 0 := ⟨pm_mem 203 (by decide +kernel) (by decide +kernel), pm_mem 204 (by decide +kernel) (by decide +kernel), pm_mem 205 (by decide +kernel) (by decide +kernel), by decide +kernel, kk_D_joinFirstBlocking, rfl⟩
theorem hc_H_106 : pm_CV "RoommateHouse" 106 km_S_howMany 0 := ⟨pm_mem 219 (by decide +kernel) (by decide +kernel), pm_mem 220 (by decide +kernel) (by decide +kernel), pm_mem 221 (by decide +kernel) (by decide +kernel), by decide +kernel, kk_S_howMany, rfl⟩
theorem hc_H_109 : pm_CV "RoommateHouse" 109 km_S_mateInFirst 1 := ⟨pm_mem 540 (by decide +kernel) (by decide +kernel), pm_mem 541 (by decide +kernel) (by decide +kernel), pm_mem 542 (by decide +kernel) (by decide +kernel), by decide +kernel, kk_S_mateInFirst, rfl⟩
theorem hc_H_112 : pm_CV "RoommateHouse" 112 km_S_worstMate 1 := ⟨pm_mem 551 (by decide +kernel) (by decide +kernel), pm_mem 552 (by decide +kernel) (by decide +kernel), pm_mem 553 (by decide +kernel) (by decide +kernel), by decide +kernel, kk_S_worstMate, rfl⟩
theorem hc_H_115 : pm_CV "RoommateHouse" 115 km_S_bestMate 1 := ⟨pm_mem 555 (by decide +kernel) (by decide +kernel), pm_mem 556 (by decide +kernel) (by decide +kernel), pm_mem 557 (by decide +kernel) (by decide +kernel), by decide +kernel, kk_S_bestMate, rfl⟩
theorem hc_H_118 : pm_CV "RoommateHouse" 118 km_S_howOften 2 := ⟨pm_mem 566 (by decide +kernel) (by decide +kernel), pm_mem 567 (by decide +kernel) (by decide +kernel), pm_mem 568 (by decide +kernel) (by decide +kernel), by decide +kernel, kk_S_howOften, rfl⟩
theorem hc_H_121 : pm_CV "RoommateHouse" 121 km_P_oddSize 1 := ⟨pm_mem 577 (by decide +kernel) (by decide +kernel), pm_mem 578 (by decide +kernel) (by decide +kernel), pm_mem 579 (by decide +kernel) (by decide +kernel), by decide +kernel, kk_P_oddSize, rfl⟩
theorem hc_H_124 : pm_CV "RoommateHouse" 124 km_P_follower 1 := ⟨pm_mem 588 (by decide +kernel) (by decide +kernel), pm_mem 589 (by decide +kernel) (by decide +kernel), pm_mem 590 (by decide +kernel) (by decide +kernel), by decide +kernel, kk_P_follower, rfl⟩
theorem hc_H_127 : pm_CV "RoommateHouse" 127 km_P_countOddRings 0 := ⟨pm_mem 265 (by decide +kernel) (by decide +kernel), pm_mem 266 (by decide +kernel) (by decide +kernel), pm_mem 267 (by decide +kernel) (by decide +kernel), by decide +kernel, kk_P_countOddRings, rfl⟩
theorem hc_H_130 : pm_CV "RoommateHouse" 130 km_P_countOdd 0 := ⟨pm_mem 307 (by decide +kernel) (by decide +kernel), pm_mem 308 (by decide +kernel) (by decide +kernel), pm_mem 309 (by decide +kernel) (by decide +kernel), by decide +kernel, kk_P_countOdd, rfl⟩
theorem hc_H_133 : pm_CV "RoommateHouse" 133 km_D_countAstray 0 := ⟨pm_mem 320 (by decide +kernel) (by decide +kernel), pm_mem 321 (by decide +kernel) (by decide +kernel), pm_mem 322 (by decide +kernel) (by decide +kernel), by decide +kernel, kk_D_countAstray, rfl⟩
theorem hc_H_136 : pm_CV "RoommateHouse" 136 km_W_clear 1 := ⟨pm_mem 162 (by decide +kernel) (by decide +kernel), pm_mem 163 (by decide +kernel) (by decide +kernel), pm_mem 164 (by decide +kernel) (by decide +kernel), by decide +kernel, kk_W_clear, rfl⟩
theorem hc_H_139 : pm_CV "RoommateHouse" 139 km_D_makeAllSingle 0 := ⟨pm_mem 166 (by decide +kernel) (by decide +kernel), pm_mem 167 (by decide +kernel) (by decide +kernel), pm_mem 168 (by decide +kernel) (by decide +kernel), by decide +kernel, kk_D_makeAllSingle, rfl⟩
theorem hc_L_7 : pm_CV "RoommateHouseLaw" 7 km_H_people 1 := ⟨pm_mem 333 (by decide +kernel) (by decide +kernel), pm_mem 334 (by decide +kernel) (by decide +kernel), pm_mem 335 (by decide +kernel) (by decide +kernel), by decide +kernel, kk_H_people, rfl⟩
theorem hc_L_15 : pm_CV "RoommateHouseLaw" 15 km_H_put 2 := ⟨pm_mem 405 (by decide +kernel) (by decide +kernel), pm_mem 406 (by decide +kernel) (by decide +kernel), pm_mem 407 (by decide +kernel) (by decide +kernel), by decide +kernel, kk_H_put, rfl⟩
theorem hc_L_23 : pm_CV "RoommateHouseLaw" 23 km_H_remove 2 := ⟨pm_mem 467 (by decide +kernel) (by decide +kernel), pm_mem 468 (by decide +kernel) (by decide +kernel), pm_mem 469 (by decide +kernel) (by decide +kernel), by decide +kernel, kk_H_remove, rfl⟩
theorem hc_L_26 : pm_CV "RoommateHouseLaw" 26 km_H_move 3 := ⟨pm_mem 491 (by decide +kernel) (by decide +kernel), pm_mem 492 (by decide +kernel) (by decide +kernel), pm_mem 493 (by decide +kernel) (by decide +kernel), by decide +kernel, kk_H_move, rfl⟩
theorem hc_L_30 : pm_CV "RoommateHouseLaw" 30 km_H_at 2 := ⟨pm_mem 502 (by decide +kernel) (by decide +kernel), pm_mem 503 (by decide +kernel) (by decide +kernel), pm_mem 504 (by decide +kernel) (by decide +kernel), by decide +kernel, kk_H_at, rfl⟩
theorem hc_L_33 : pm_CV "RoommateHouseLaw" 33 km_H_place 2 := ⟨pm_mem 509 (by decide +kernel) (by decide +kernel), pm_mem 510 (by decide +kernel) (by decide +kernel), pm_mem 511 (by decide +kernel) (by decide +kernel), by decide +kernel, kk_H_place, rfl⟩
theorem hc_L_36 : pm_CV "RoommateHouseLaw" 36 km_H_pair 2 := ⟨pm_mem 516 (by decide +kernel) (by decide +kernel), pm_mem 517 (by decide +kernel) (by decide +kernel), pm_mem 518 (by decide +kernel) (by decide +kernel), by decide +kernel, kk_H_pair, rfl⟩
theorem hc_L_39 : pm_CV "RoommateHouseLaw" 39 km_H_partner 1 := ⟨pm_mem 525 (by decide +kernel) (by decide +kernel), pm_mem 526 (by decide +kernel) (by decide +kernel), pm_mem 527 (by decide +kernel) (by decide +kernel), by decide +kernel, kk_H_partner, rfl⟩
theorem hc_L_42 : pm_CV "RoommateHouseLaw" 42 km_H_matched 1 := ⟨pm_mem 536 (by decide +kernel) (by decide +kernel), pm_mem 537 (by decide +kernel) (by decide +kernel), pm_mem 538 (by decide +kernel) (by decide +kernel), by decide +kernel, kk_H_matched, rfl⟩
theorem hc_L_45 : pm_CV "RoommateHouseLaw" 45 km_H_extreme 2 := ⟨pm_mem 547 (by decide +kernel) (by decide +kernel), pm_mem 548 (by decide +kernel) (by decide +kernel), pm_mem 549 (by decide +kernel) (by decide +kernel), by decide +kernel, kk_H_extreme, rfl⟩
theorem hc_L_49 : pm_CV "RoommateHouseLaw" 49 km_H_together 2 := ⟨pm_mem 562 (by decide +kernel) (by decide +kernel), pm_mem 563 (by decide +kernel) (by decide +kernel), pm_mem 564 (by decide +kernel) (by decide +kernel), by decide +kernel, kk_H_together, rfl⟩
theorem hc_L_52 : pm_CV "RoommateHouseLaw" 52 km_H_party 1 := ⟨pm_mem 573 (by decide +kernel) (by decide +kernel), pm_mem 574 (by decide +kernel) (by decide +kernel), pm_mem 575 (by decide +kernel) (by decide +kernel), by decide +kernel, kk_H_party, rfl⟩
theorem hc_L_55 : pm_CV "RoommateHouseLaw" 55 km_H_next 1 := ⟨pm_mem 584 (by decide +kernel) (by decide +kernel), pm_mem 585 (by decide +kernel) (by decide +kernel), pm_mem 586 (by decide +kernel) (by decide +kernel), by decide +kernel, kk_H_next, rfl⟩
theorem hc_L_67 : pm_CV "RoommateHouseLaw" 67 km_M_people 1 := ⟨pm_mem 654 (by decide +kernel) (by decide +kernel), pm_mem 655 (by decide +kernel) (by decide +kernel), pm_mem 656 (by decide +kernel) (by decide +kernel), by decide +kernel, kk_M_people, rfl⟩
theorem hc_L_68 : pm_CV "RoommateHouseLaw" 68 km_M_thrown 0 := ⟨pm_mem 650 (by decide +kernel) (by decide +kernel), pm_mem 651 (by decide +kernel) (by decide +kernel), pm_mem 652 (by decide +kernel) (by decide +kernel), by decide +kernel, kk_M_thrown, rfl⟩
theorem hc_L_75 : pm_CV "RoommateHouseLaw" 75 km_M_put 2 := ⟨pm_mem 658 (by decide +kernel) (by decide +kernel), pm_mem 659 (by decide +kernel) (by decide +kernel), pm_mem 660 (by decide +kernel) (by decide +kernel), by decide +kernel, kk_M_put, rfl⟩
theorem hc_L_78 : pm_CV "RoommateHouseLaw" 78 km_M_remove 2 := ⟨pm_mem 678 (by decide +kernel) (by decide +kernel), pm_mem 679 (by decide +kernel) (by decide +kernel), pm_mem 680 (by decide +kernel) (by decide +kernel), by decide +kernel, kk_M_remove, rfl⟩
theorem hc_L_82 : pm_CV "RoommateHouseLaw" 82 km_M_move 3 := ⟨pm_mem 686 (by decide +kernel) (by decide +kernel), pm_mem 687 (by decide +kernel) (by decide +kernel), pm_mem 688 (by decide +kernel) (by decide +kernel), by decide +kernel, kk_M_move, rfl⟩
theorem hc_L_85 : pm_CV "RoommateHouseLaw" 85 km_M_at 2 := ⟨pm_mem 690 (by decide +kernel) (by decide +kernel), pm_mem 691 (by decide +kernel) (by decide +kernel), pm_mem 692 (by decide +kernel) (by decide +kernel), by decide +kernel, kk_M_at, rfl⟩
theorem hc_L_88 : pm_CV "RoommateHouseLaw" 88 km_M_place 2 := ⟨pm_mem 694 (by decide +kernel) (by decide +kernel), pm_mem 695 (by decide +kernel) (by decide +kernel), pm_mem 696 (by decide +kernel) (by decide +kernel), by decide +kernel, kk_M_place, rfl⟩
theorem hc_L_91 : pm_CV "RoommateHouseLaw" 91 km_M_pair 2 := ⟨pm_mem 698 (by decide +kernel) (by decide +kernel), pm_mem 699 (by decide +kernel) (by decide +kernel), pm_mem 700 (by decide +kernel) (by decide +kernel), by decide +kernel, kk_M_pair, rfl⟩
theorem hc_L_94 : pm_CV "RoommateHouseLaw" 94 km_M_partner 1 := ⟨pm_mem 718 (by decide +kernel) (by decide +kernel), pm_mem 719 (by decide +kernel) (by decide +kernel), pm_mem 720 (by decide +kernel) (by decide +kernel), by decide +kernel, kk_M_partner, rfl⟩
theorem hc_L_95 : pm_CV "RoommateHouseLaw" 95 km_H_blocking 0 := ⟨pm_mem 183 (by decide +kernel) (by decide +kernel), pm_mem 184 (by decide +kernel) (by decide +kernel), pm_mem 185 (by decide +kernel) (by decide +kernel), by decide +kernel, kk_H_blocking, rfl⟩
theorem hc_L_98 : pm_CV "RoommateHouseLaw" 98 km_M_blocking 0 := ⟨pm_mem 722 (by decide +kernel) (by decide +kernel), pm_mem 723 (by decide +kernel) (by decide +kernel), pm_mem 724 (by decide +kernel) (by decide +kernel), by decide +kernel, kk_M_blocking, rfl⟩
theorem hc_L_99 : pm_CV "RoommateHouseLaw" 99 km_H_satisfy 0 := ⟨pm_mem 199 (by decide +kernel) (by decide +kernel), pm_mem 200 (by decide +kernel) (by decide +kernel), pm_mem 201 (by decide +kernel) (by decide +kernel), by decide +kernel, kk_H_satisfy, rfl⟩
theorem hc_L_102 : pm_CV "RoommateHouseLaw" 102 km_M_satisfy 0 := ⟨pm_mem 726 (by decide +kernel) (by decide +kernel), pm_mem 727 (by decide +kernel) (by decide +kernel), pm_mem 728 (by decide +kernel) (by decide +kernel), by decide +kernel, kk_M_satisfy, rfl⟩
theorem hc_L_103 : pm_CV "RoommateHouseLaw" 103 km_H_matchings 0 := ⟨pm_mem 215 (by decide +kernel) (by decide +kernel), pm_mem 216 (by decide +kernel) (by decide +kernel), pm_mem 217 (by decide +kernel) (by decide +kernel), by decide +kernel, kk_H_matchings, rfl⟩
theorem hc_L_106 : pm_CV "RoommateHouseLaw" 106 km_M_matchings 0 := ⟨pm_mem 730 (by decide +kernel) (by decide +kernel), pm_mem 731 (by decide +kernel) (by decide +kernel), pm_mem 732 (by decide +kernel) (by decide +kernel), by decide +kernel, kk_M_matchings, rfl⟩
theorem hc_L_109 : pm_CV "RoommateHouseLaw" 109 km_M_matched 1 := ⟨pm_mem 782 (by decide +kernel) (by decide +kernel), pm_mem 783 (by decide +kernel) (by decide +kernel), pm_mem 784 (by decide +kernel) (by decide +kernel), by decide +kernel, kk_M_matched, rfl⟩
theorem hc_L_113 : pm_CV "RoommateHouseLaw" 113 km_M_extreme 2 := ⟨pm_mem 786 (by decide +kernel) (by decide +kernel), pm_mem 787 (by decide +kernel) (by decide +kernel), pm_mem 788 (by decide +kernel) (by decide +kernel), by decide +kernel, kk_M_extreme, rfl⟩
theorem hc_L_116 : pm_CV "RoommateHouseLaw" 116 km_M_together 2 := ⟨pm_mem 790 (by decide +kernel) (by decide +kernel), pm_mem 791 (by decide +kernel) (by decide +kernel), pm_mem 792 (by decide +kernel) (by decide +kernel), by decide +kernel, kk_M_together, rfl⟩
theorem hc_L_119 : pm_CV "RoommateHouseLaw" 119 km_M_party 1 := ⟨pm_mem 794 (by decide +kernel) (by decide +kernel), pm_mem 795 (by decide +kernel) (by decide +kernel), pm_mem 796 (by decide +kernel) (by decide +kernel), by decide +kernel, kk_M_party, rfl⟩
theorem hc_L_122 : pm_CV "RoommateHouseLaw" 122 km_M_next 1 := ⟨pm_mem 798 (by decide +kernel) (by decide +kernel), pm_mem 799 (by decide +kernel) (by decide +kernel), pm_mem 800 (by decide +kernel) (by decide +kernel), by decide +kernel, kk_M_next, rfl⟩
theorem hc_L_123 : pm_CV "RoommateHouseLaw" 123 km_H_parties 1 := ⟨pm_mem 261 (by decide +kernel) (by decide +kernel), pm_mem 262 (by decide +kernel) (by decide +kernel), pm_mem 263 (by decide +kernel) (by decide +kernel), by decide +kernel, kk_H_parties, rfl⟩
theorem hc_L_127 : pm_CV "RoommateHouseLaw" 127 km_M_parties 1 := ⟨pm_mem 802 (by decide +kernel) (by decide +kernel), pm_mem 803 (by decide +kernel) (by decide +kernel), pm_mem 804 (by decide +kernel) (by decide +kernel), by decide +kernel, kk_M_parties, rfl⟩
theorem hc_L_128 : pm_CV "RoommateHouseLaw" 128 km_H_size 0 := ⟨pm_mem 311 (by decide +kernel) (by decide +kernel), pm_mem 312 (by decide +kernel) (by decide +kernel), pm_mem 313 (by decide +kernel) (by decide +kernel), by decide +kernel, kk_H_size, rfl⟩
theorem hc_L_131 : pm_CV "RoommateHouseLaw" 131 km_M_size 0 := ⟨pm_mem 806 (by decide +kernel) (by decide +kernel), pm_mem 807 (by decide +kernel) (by decide +kernel), pm_mem 808 (by decide +kernel) (by decide +kernel), by decide +kernel, kk_M_size, rfl⟩
theorem hc_L_132 : pm_CV "RoommateHouseLaw" 132 km_H_astray 0 := ⟨pm_mem 316 (by decide +kernel) (by decide +kernel), pm_mem 317 (by decide +kernel) (by decide +kernel), pm_mem 318 (by decide +kernel) (by decide +kernel), by decide +kernel, kk_H_astray, rfl⟩
theorem hc_L_135 : pm_CV "RoommateHouseLaw" 135 km_M_astray 0 := ⟨pm_mem 810 (by decide +kernel) (by decide +kernel), pm_mem 811 (by decide +kernel) (by decide +kernel), pm_mem 812 (by decide +kernel) (by decide +kernel), by decide +kernel, kk_M_astray, rfl⟩
theorem hc_M_50 : pm_CV "RoommateHouseModel" 50 km_M_placeOf 2 := ⟨pm_mem 666 (by decide +kernel) (by decide +kernel), pm_mem 668 (by decide +kernel) (by decide +kernel), pm_mem 22 (by decide +kernel) (by decide +kernel), by decide +kernel, kk_M_placeOf, rfl⟩
theorem hc_M_54 : pm_CV "RoommateHouseModel" 54 km_M_mayBe 2 := ⟨pm_mem 674 (by decide +kernel) (by decide +kernel), pm_mem 676 (by decide +kernel) (by decide +kernel), pm_mem 24 (by decide +kernel) (by decide +kernel), by decide +kernel, kk_M_mayBe, rfl⟩
theorem hc_M_62 : pm_CV "RoommateHouseModel" 62 km_M_isPerson 1 := ⟨pm_mem 662 (by decide +kernel) (by decide +kernel), pm_mem 664 (by decide +kernel) (by decide +kernel), pm_mem 21 (by decide +kernel) (by decide +kernel), by decide +kernel, kk_M_isPerson, rfl⟩
theorem hc_M_66 : pm_CV "RoommateHouseModel" 66 km_M_change 0 := ⟨pm_mem 670 (by decide +kernel) (by decide +kernel), pm_mem 672 (by decide +kernel) (by decide +kernel), pm_mem 23 (by decide +kernel) (by decide +kernel), by decide +kernel, kk_M_change, rfl⟩
theorem hc_M_69 : pm_CV "RoommateHouseModel" 69 km_M_isPlace 2 := ⟨pm_mem 682 (by decide +kernel) (by decide +kernel), pm_mem 684 (by decide +kernel) (by decide +kernel), pm_mem 25 (by decide +kernel) (by decide +kernel), by decide +kernel, kk_M_isPlace, rfl⟩
theorem hc_M_72 : pm_CV "RoommateHouseModel" 72 km_M_prefers 3 := ⟨pm_mem 714 (by decide +kernel) (by decide +kernel), pm_mem 716 (by decide +kernel) (by decide +kernel), pm_mem 29 (by decide +kernel) (by decide +kernel), by decide +kernel, kk_M_prefers, rfl⟩
theorem hc_M_76 : pm_CV "RoommateHouseModel" 76 km_M_wouldLeave 3 := ⟨pm_mem 754 (by decide +kernel) (by decide +kernel), pm_mem 756 (by decide +kernel) (by decide +kernel), pm_mem 35 (by decide +kernel) (by decide +kernel), by decide +kernel, kk_M_wouldLeave, rfl⟩
theorem hc_M_80 : pm_CV "RoommateHouseModel" 80 km_M_blocks 3 := ⟨pm_mem 710 (by decide +kernel) (by decide +kernel), pm_mem 712 (by decide +kernel) (by decide +kernel), pm_mem 28 (by decide +kernel) (by decide +kernel), by decide +kernel, kk_M_blocks, rfl⟩
theorem hc_M_83 : pm_CV "RoommateHouseModel" 83 km_M_join 2 := ⟨pm_mem 702 (by decide +kernel) (by decide +kernel), pm_mem 704 (by decide +kernel) (by decide +kernel), pm_mem 26 (by decide +kernel) (by decide +kernel), by decide +kernel, kk_M_join, rfl⟩
theorem hc_M_87 : pm_CV "RoommateHouseModel" 87 km_M_blockingOf 1 := ⟨pm_mem 706 (by decide +kernel) (by decide +kernel), pm_mem 708 (by decide +kernel) (by decide +kernel), pm_mem 27 (by decide +kernel) (by decide +kernel), by decide +kernel, kk_M_blockingOf, rfl⟩
theorem hc_M_91 : pm_CV "RoommateHouseModel" 91 km_M_chosen 2 := ⟨pm_mem 770 (by decide +kernel) (by decide +kernel), pm_mem 772 (by decide +kernel) (by decide +kernel), pm_mem 39 (by decide +kernel) (by decide +kernel), by decide +kernel, kk_M_chosen, rfl⟩
theorem hc_M_94 : pm_CV "RoommateHouseModel" 94 km_M_goes 3 := ⟨pm_mem 774 (by decide +kernel) (by decide +kernel), pm_mem 776 (by decide +kernel) (by decide +kernel), pm_mem 40 (by decide +kernel) (by decide +kernel), by decide +kernel, kk_M_goes, rfl⟩
theorem hc_M_98 : pm_CV "RoommateHouseModel" 98 km_M_mayStay 2 := ⟨pm_mem 778 (by decide +kernel) (by decide +kernel), pm_mem 780 (by decide +kernel) (by decide +kernel), pm_mem 41 (by decide +kernel) (by decide +kernel), by decide +kernel, kk_M_mayStay, rfl⟩
theorem hc_M_101 : pm_CV "RoommateHouseModel" 101 km_M_look 1 := ⟨pm_mem 742 (by decide +kernel) (by decide +kernel), pm_mem 744 (by decide +kernel) (by decide +kernel), pm_mem 32 (by decide +kernel) (by decide +kernel), by decide +kernel, kk_M_look, rfl⟩
theorem hc_M_105 : pm_CV "RoommateHouseModel" 105 km_M_forget 2 := ⟨pm_mem 762 (by decide +kernel) (by decide +kernel), pm_mem 764 (by decide +kernel) (by decide +kernel), pm_mem 37 (by decide +kernel) (by decide +kernel), by decide +kernel, kk_M_forget, rfl⟩
theorem hc_M_109 : pm_CV "RoommateHouseModel" 109 km_M_nextChoice 3 := ⟨pm_mem 766 (by decide +kernel) (by decide +kernel), pm_mem 768 (by decide +kernel) (by decide +kernel), pm_mem 38 (by decide +kernel) (by decide +kernel), by decide +kernel, kk_M_nextChoice, rfl⟩
theorem hc_M_113 : pm_CV "RoommateHouseModel" 113 km_M_isPartition 0 := ⟨pm_mem 746 (by decide +kernel) (by decide +kernel), pm_mem 748 (by decide +kernel) (by decide +kernel), pm_mem 33 (by decide +kernel) (by decide +kernel), by decide +kernel, kk_M_isPartition, rfl⟩
theorem hc_M_117 : pm_CV "RoommateHouseModel" 117 km_M_takesParties 0 := ⟨pm_mem 758 (by decide +kernel) (by decide +kernel), pm_mem 760 (by decide +kernel) (by decide +kernel), pm_mem 36 (by decide +kernel) (by decide +kernel), by decide +kernel, kk_M_takesParties, rfl⟩
theorem hc_M_120 : pm_CV "RoommateHouseModel" 120 km_M_isStable 1 := ⟨pm_mem 750 (by decide +kernel) (by decide +kernel), pm_mem 752 (by decide +kernel) (by decide +kernel), pm_mem 34 (by decide +kernel) (by decide +kernel), by decide +kernel, kk_M_isStable, rfl⟩
theorem hc_M_127 : pm_CV "RoommateHouseModel" 127 km_M_goThrough 1 := ⟨pm_mem 738 (by decide +kernel) (by decide +kernel), pm_mem 740 (by decide +kernel) (by decide +kernel), pm_mem 31 (by decide +kernel) (by decide +kernel), by decide +kernel, kk_M_goThrough, rfl⟩
theorem hc_M_137 : pm_CV "RoommateHouseModel" 137 km_M_learn 0 := ⟨pm_mem 734 (by decide +kernel) (by decide +kernel), pm_mem 736 (by decide +kernel) (by decide +kernel), pm_mem 30 (by decide +kernel) (by decide +kernel), by decide +kernel, kk_M_learn, rfl⟩
theorem hc_P_29 : pm_CV "RoommateHouse$Partition" 29 km_P_reckon 0 := ⟨pm_mem 269 (by decide +kernel) (by decide +kernel), pm_mem 271 (by decide +kernel) (by decide +kernel), pm_mem 6 (by decide +kernel) (by decide +kernel), by decide +kernel, kk_P_reckon, rfl⟩
theorem hc_P_38 : pm_CV "RoommateHouse$Partition" 38 km_W_changes 0 := ⟨pm_mem 273 (by decide +kernel) (by decide +kernel), pm_mem 228 (by decide +kernel) (by decide +kernel), pm_mem 229 (by decide +kernel) (by decide +kernel), by decide +kernel, kk_W_changes, rfl⟩
theorem hc_P_44 : pm_CV "RoommateHouse$Partition" 44 km_P_search 1 := ⟨pm_mem 274 (by decide +kernel) (by decide +kernel), pm_mem 276 (by decide +kernel) (by decide +kernel), pm_mem 7 (by decide +kernel) (by decide +kernel), by decide +kernel, kk_P_search, rfl⟩
theorem hc_P_48 : pm_CV "RoommateHouse$Partition" 48 km_P_measureAll 0 := ⟨pm_mem 295 (by decide +kernel) (by decide +kernel), pm_mem 297 (by decide +kernel) (by decide +kernel), pm_mem 10 (by decide +kernel) (by decide +kernel), by decide +kernel, kk_P_measureAll, rfl⟩
theorem hc_P_51 : pm_CV "RoommateHouse$Partition" 51 km_W_count 0 := ⟨pm_mem 278 (by decide +kernel) (by decide +kernel), pm_mem 192 (by decide +kernel) (by decide +kernel), pm_mem 193 (by decide +kernel) (by decide +kernel), by decide +kernel, kk_W_count, rfl⟩
theorem hc_P_54 : pm_CV "RoommateHouse$Partition" 54 km_W_length 1 := ⟨pm_mem 279 (by decide +kernel) (by decide +kernel), pm_mem 241 (by decide +kernel) (by decide +kernel), pm_mem 242 (by decide +kernel) (by decide +kernel), by decide +kernel, kk_W_length, rfl⟩
theorem hc_P_58 : pm_CV "RoommateHouse$Partition" 58 km_W_otherAt 2 := ⟨pm_mem 280 (by decide +kernel) (by decide +kernel), pm_mem 245 (by decide +kernel) (by decide +kernel), pm_mem 246 (by decide +kernel) (by decide +kernel), by decide +kernel, kk_W_otherAt, rfl⟩
theorem hc_P_62 : pm_CV "RoommateHouse$Partition" 62 km_W_arePossible 2 := ⟨pm_mem 281 (by decide +kernel) (by decide +kernel), pm_mem 249 (by decide +kernel) (by decide +kernel), pm_mem 250 (by decide +kernel) (by decide +kernel), by decide +kernel, kk_W_arePossible, rfl⟩
theorem hc_P_66 : pm_CV "RoommateHouse$Partition" 66 km_P_searchWith 2 := ⟨pm_mem 282 (by decide +kernel) (by decide +kernel), pm_mem 284 (by decide +kernel) (by decide +kernel), pm_mem 8 (by decide +kernel) (by decide +kernel), by decide +kernel, kk_P_searchWith, rfl⟩
theorem hc_P_69 : pm_CV "RoommateHouse$Partition" 69 km_P_keepsOrder 1 := ⟨pm_mem 286 (by decide +kernel) (by decide +kernel), pm_mem 288 (by decide +kernel) (by decide +kernel), pm_mem 9 (by decide +kernel) (by decide +kernel), by decide +kernel, kk_P_keepsOrder, rfl⟩
theorem hc_P_72 : pm_CV "RoommateHouse$Partition" 72 km_W_wouldBlockWithAny 2 := ⟨pm_mem 294 (by decide +kernel) (by decide +kernel), pm_mem 257 (by decide +kernel) (by decide +kernel), pm_mem 258 (by decide +kernel) (by decide +kernel), by decide +kernel, kk_W_wouldBlockWithAny, rfl⟩
theorem hc_P_76 : pm_CV "RoommateHouse$Partition" 76 km_W_prefers 3 := ⟨pm_mem 290 (by decide +kernel) (by decide +kernel), pm_mem 291 (by decide +kernel) (by decide +kernel), pm_mem 292 (by decide +kernel) (by decide +kernel), by decide +kernel, kk_W_prefers, rfl⟩
theorem hc_P_80 : pm_CV "RoommateHouse$Partition" 80 km_P_sizeRound 1 := ⟨pm_mem 299 (by decide +kernel) (by decide +kernel), pm_mem 301 (by decide +kernel) (by decide +kernel), pm_mem 11 (by decide +kernel) (by decide +kernel), by decide +kernel, kk_P_sizeRound, rfl⟩
theorem hc_P_83 : pm_CV "RoommateHouse$Partition" 83 km_P_countParty 2 := ⟨pm_mem 303 (by decide +kernel) (by decide +kernel), pm_mem 305 (by decide +kernel) (by decide +kernel), pm_mem 12 (by decide +kernel) (by decide +kernel), by decide +kernel, kk_P_countParty, rfl⟩
theorem hc_S_31 : pm_CV "RoommateHouse$StableMatchings" 31 km_S_reckon 0 := ⟨pm_mem 223 (by decide +kernel) (by decide +kernel), pm_mem 225 (by decide +kernel) (by decide +kernel), pm_mem 2 (by decide +kernel) (by decide +kernel), by decide +kernel, kk_S_reckon, rfl⟩
theorem hc_S_37 : pm_CV "RoommateHouse$StableMatchings" 37 km_W_length 1 := ⟨pm_mem 240 (by decide +kernel) (by decide +kernel), pm_mem 241 (by decide +kernel) (by decide +kernel), pm_mem 242 (by decide +kernel) (by decide +kernel), by decide +kernel, kk_W_length, rfl⟩
theorem hc_S_43 : pm_CV "RoommateHouse$StableMatchings" 43 km_W_otherAt 2 := ⟨pm_mem 244 (by decide +kernel) (by decide +kernel), pm_mem 245 (by decide +kernel) (by decide +kernel), pm_mem 246 (by decide +kernel) (by decide +kernel), by decide +kernel, kk_W_otherAt, rfl⟩
theorem hc_S_47 : pm_CV "RoommateHouse$StableMatchings" 47 km_W_changes 0 := ⟨pm_mem 227 (by decide +kernel) (by decide +kernel), pm_mem 228 (by decide +kernel) (by decide +kernel), pm_mem 229 (by decide +kernel) (by decide +kernel), by decide +kernel, kk_W_changes, rfl⟩
theorem hc_S_51 : pm_CV "RoommateHouse$StableMatchings" 51 km_S_search 1 := ⟨pm_mem 231 (by decide +kernel) (by decide +kernel), pm_mem 233 (by decide +kernel) (by decide +kernel), pm_mem 3 (by decide +kernel) (by decide +kernel), by decide +kernel, kk_S_search, rfl⟩
theorem hc_S_55 : pm_CV "RoommateHouse$StableMatchings" 55 km_W_count 0 := ⟨pm_mem 235 (by decide +kernel) (by decide +kernel), pm_mem 192 (by decide +kernel) (by decide +kernel), pm_mem 193 (by decide +kernel) (by decide +kernel), by decide +kernel, kk_W_count, rfl⟩
theorem hc_S_58 : pm_CV "RoommateHouse$StableMatchings" 58 km_S_keep 0 := ⟨pm_mem 236 (by decide +kernel) (by decide +kernel), pm_mem 238 (by decide +kernel) (by decide +kernel), pm_mem 4 (by decide +kernel) (by decide +kernel), by decide +kernel, kk_S_keep, rfl⟩
theorem hc_S_61 : pm_CV "RoommateHouse$StableMatchings" 61 km_W_arePossible 2 := ⟨pm_mem 248 (by decide +kernel) (by decide +kernel), pm_mem 249 (by decide +kernel) (by decide +kernel), pm_mem 250 (by decide +kernel) (by decide +kernel), by decide +kernel, kk_W_arePossible, rfl⟩
theorem hc_S_65 : pm_CV "RoommateHouse$StableMatchings" 65 km_S_searchWith 2 := ⟨pm_mem 252 (by decide +kernel) (by decide +kernel), pm_mem 254 (by decide +kernel) (by decide +kernel), pm_mem 5 (by decide +kernel) (by decide +kernel), by decide +kernel, kk_S_searchWith, rfl⟩
theorem hc_S_69 : pm_CV "RoommateHouse$StableMatchings" 69 km_W_wouldBlockWithAny 2 := ⟨pm_mem 256 (by decide +kernel) (by decide +kernel), pm_mem 257 (by decide +kernel) (by decide +kernel), pm_mem 258 (by decide +kernel) (by decide +kernel), by decide +kernel, kk_W_wouldBlockWithAny, rfl⟩
theorem hc_W_33 : pm_CV "RoommateHouse$Wishes" 33 km_W_set 3 := ⟨pm_mem 455 (by decide +kernel) (by decide +kernel), pm_mem 457 (by decide +kernel) (by decide +kernel), pm_mem 17 (by decide +kernel) (by decide +kernel), by decide +kernel, kk_W_set, rfl⟩
theorem hc_W_37 : pm_CV "RoommateHouse$Wishes" 37 km_W_noteChange 1 := ⟨pm_mem 459 (by decide +kernel) (by decide +kernel), pm_mem 461 (by decide +kernel) (by decide +kernel), pm_mem 18 (by decide +kernel) (by decide +kernel), by decide +kernel, kk_W_noteChange, rfl⟩
theorem hc_W_41 : pm_CV "RoommateHouse$Wishes" 41 km_W_slide 3 := ⟨pm_mem 480 (by decide +kernel) (by decide +kernel), pm_mem 482 (by decide +kernel) (by decide +kernel), pm_mem 20 (by decide +kernel) (by decide +kernel), by decide +kernel, kk_W_slide, rfl⟩
theorem hc_W_44 : pm_CV "RoommateHouse$Wishes" 44 km_W_wouldBlock 3 := ⟨pm_mem 260 (by decide +kernel) (by decide +kernel), pm_mem 196 (by decide +kernel) (by decide +kernel), pm_mem 197 (by decide +kernel) (by decide +kernel), by decide +kernel, kk_W_wouldBlock, rfl⟩
theorem hs_L_62 : pm_CS "RoommateHouseLaw" 62 km_L_people 3 := ⟨pm_mem 329 (by decide +kernel) (by decide +kernel), pm_mem 330 (by decide +kernel) (by decide +kernel), by decide +kernel, kk_L_people⟩
theorem hs_L_72 : pm_CS "RoommateHouseLaw" 72 km_L_put 4 := ⟨pm_mem 400 (by decide +kernel) (by decide +kernel), pm_mem 401 (by decide +kernel) (by decide +kernel), by decide +kernel, kk_L_put⟩
theorem hs_L_76 : pm_CS "RoommateHouseLaw" 76 km_L_remove 4 := ⟨pm_mem 464 (by decide +kernel) (by decide +kernel), pm_mem 465 (by decide +kernel) (by decide +kernel), by decide +kernel, kk_L_remove⟩
theorem hs_L_79 : pm_CS "RoommateHouseLaw" 79 km_L_move 5 := ⟨pm_mem 488 (by decide +kernel) (by decide +kernel), pm_mem 489 (by decide +kernel) (by decide +kernel), by decide +kernel, kk_L_move⟩
theorem hs_L_83 : pm_CS "RoommateHouseLaw" 83 km_L_at 4 := ⟨pm_mem 499 (by decide +kernel) (by decide +kernel), pm_mem 500 (by decide +kernel) (by decide +kernel), by decide +kernel, kk_L_at⟩
theorem hs_L_86 : pm_CS "RoommateHouseLaw" 86 km_L_place 4 := ⟨pm_mem 506 (by decide +kernel) (by decide +kernel), pm_mem 507 (by decide +kernel) (by decide +kernel), by decide +kernel, kk_L_place⟩
theorem hs_L_89 : pm_CS "RoommateHouseLaw" 89 km_L_pair 4 := ⟨pm_mem 513 (by decide +kernel) (by decide +kernel), pm_mem 514 (by decide +kernel) (by decide +kernel), by decide +kernel, kk_L_pair⟩
theorem hs_L_92 : pm_CS "RoommateHouseLaw" 92 km_L_partner 3 := ⟨pm_mem 522 (by decide +kernel) (by decide +kernel), pm_mem 523 (by decide +kernel) (by decide +kernel), by decide +kernel, kk_L_partner⟩
theorem hs_L_107 : pm_CS "RoommateHouseLaw" 107 km_L_matched 3 := ⟨pm_mem 533 (by decide +kernel) (by decide +kernel), pm_mem 534 (by decide +kernel) (by decide +kernel), by decide +kernel, kk_L_matched⟩
theorem hs_L_110 : pm_CS "RoommateHouseLaw" 110 km_L_extreme 4 := ⟨pm_mem 544 (by decide +kernel) (by decide +kernel), pm_mem 545 (by decide +kernel) (by decide +kernel), by decide +kernel, kk_L_extreme⟩
theorem hs_L_114 : pm_CS "RoommateHouseLaw" 114 km_L_together 4 := ⟨pm_mem 559 (by decide +kernel) (by decide +kernel), pm_mem 560 (by decide +kernel) (by decide +kernel), by decide +kernel, kk_L_together⟩
theorem hs_L_117 : pm_CS "RoommateHouseLaw" 117 km_L_party 3 := ⟨pm_mem 570 (by decide +kernel) (by decide +kernel), pm_mem 571 (by decide +kernel) (by decide +kernel), by decide +kernel, kk_L_party⟩
theorem hs_L_120 : pm_CS "RoommateHouseLaw" 120 km_L_next 3 := ⟨pm_mem 581 (by decide +kernel) (by decide +kernel), pm_mem 582 (by decide +kernel) (by decide +kernel), by decide +kernel, kk_L_next⟩
theorem hi_H_9 : pm_CIN "RoommateHouse" "RoommateHouse" 9 km_W_init 0 := ⟨pm_mem 65 (by decide +kernel) (by decide +kernel), pm_mem 66 (by decide +kernel) (by decide +kernel), by decide +kernel, kk_W_init, rfl, rfl, rfl⟩
theorem hi_H_18 : pm_CI "RoommateHouse" 18 km_D_init 1 := ⟨pm_mem 93 (by decide +kernel) (by decide +kernel), pm_mem 94 (by decide +kernel) (by decide +kernel), by decide +kernel, kk_D_init, rfl, rfl, rfl⟩
theorem hi_H_27 : pm_CI "RoommateHouse" 27 km_S_init 1 := ⟨pm_mem 106 (by decide +kernel) (by decide +kernel), pm_mem 107 (by decide +kernel) (by decide +kernel), by decide +kernel, kk_S_init, rfl, rfl, rfl⟩
theorem hi_H_34 : pm_CI "RoommateHouse" 34 km_P_init 1 := ⟨pm_mem 132 (by decide +kernel) (by decide +kernel), pm_mem 133 (by decide +kernel) (by decide +kernel), by decide +kernel, kk_P_init, rfl, rfl, rfl⟩
theorem hi_L_58 : pm_CI "RoommateHouseLaw" 58 km_H_init 0 := ⟨pm_mem 57 (by decide +kernel) (by decide +kernel), pm_mem 58 (by decide +kernel) (by decide +kernel), by decide +kernel, kk_H_init, rfl, rfl, rfl⟩
theorem hi_L_61 : pm_CI "RoommateHouseLaw" 61 km_M_init 0 := ⟨pm_mem 594 (by decide +kernel) (by decide +kernel), pm_mem 595 (by decide +kernel) (by decide +kernel), by decide +kernel, kk_M_init, rfl, rfl, rfl⟩
end
section
/-! what is made, what is thrown -/
theorem hn_H_7 : pm_N "RoommateHouse" 7 1 := ⟨_, pm_T1, pm_ty1, rfl, pm_mem 63 (by decide +kernel) (by decide +kernel), pm_mem 64 (by decide +kernel) (by decide +kernel), pm_mem 44 (by decide +kernel) (by decide +kernel), pm_uw1, pm_tyo1, by decide +kernel⟩
theorem hn_H_16 : pm_N "RoommateHouse" 16 2 := ⟨_, pm_T2, pm_ty2, rfl, pm_mem 91 (by decide +kernel) (by decide +kernel), pm_mem 92 (by decide +kernel) (by decide +kernel), pm_mem 45 (by decide +kernel) (by decide +kernel), pm_uw2, pm_tyo2, by decide +kernel⟩
theorem hn_H_25 : pm_N "RoommateHouse" 25 3 := ⟨_, pm_T3, pm_ty3, rfl, pm_mem 104 (by decide +kernel) (by decide +kernel), pm_mem 105 (by decide +kernel) (by decide +kernel), pm_mem 46 (by decide +kernel) (by decide +kernel), pm_uw3, pm_tyo3, by decide +kernel⟩
theorem hn_H_32 : pm_N "RoommateHouse" 32 4 := ⟨_, pm_T4, pm_ty4, rfl, pm_mem 130 (by decide +kernel) (by decide +kernel), pm_mem 131 (by decide +kernel) (by decide +kernel), pm_mem 47 (by decide +kernel) (by decide +kernel), pm_uw4, pm_tyo4, by decide +kernel⟩
theorem hn_L_8 : pm_N "RoommateHouseLaw" 8 0 := ⟨_, pm_T0, pm_ty0, rfl, pm_mem 55 (by decide +kernel) (by decide +kernel), pm_mem 56 (by decide +kernel) (by decide +kernel), pm_mem 43 (by decide +kernel) (by decide +kernel), pm_uw0, pm_tyo0, by decide +kernel⟩
theorem hn_L_59 : pm_N "RoommateHouseLaw" 59 5 := ⟨_, pm_T5, pm_ty5, rfl, pm_mem 592 (by decide +kernel) (by decide +kernel), pm_mem 593 (by decide +kernel) (by decide +kernel), pm_mem 48 (by decide +kernel) (by decide +kernel), pm_uw5, pm_tyo5, by decide +kernel⟩
def pm_inw (a : Cond) : Bool := (decide (a ∈ lw_tbl) && pm_gw a) || decide (a ∈ pm_hw)
theorem pm_inw_all {l : List Cond} (h : l.all pm_inw = true) : ∀ a ∈ l, a ∈ pm_words ∨ a ∈ pm_hw := by
  intro a ha
  have h1 := List.all_eq_true.mp h a ha
  unfold pm_inw at h1
  rw [Bool.or_eq_true, Bool.and_eq_true, decide_eq_true_eq, decide_eq_true_eq] at h1
  rcases h1 with ⟨h2, h3⟩ | h2
  · exact Or.inl (List.mem_filter.mpr ⟨h2, h3⟩)
  · exact Or.inr h2
theorem hx_H_43 : pm_XW "RoommateHouse" 43 45 "java/lang/IllegalArgumentException" := ⟨pm_mem 337 (by decide +kernel) (by decide +kernel), pm_mem 338 (by decide +kernel) (by decide +kernel), pm_mem 52 (by decide +kernel) (by decide +kernel), by decide +kernel, pm_inw_all (by decide +kernel)⟩
theorem hx_H_58 : pm_XW "RoommateHouse" 58 60 "java/lang/IllegalStateException" := ⟨pm_mem 436 (by decide +kernel) (by decide +kernel), pm_mem 437 (by decide +kernel) (by decide +kernel), pm_mem 54 (by decide +kernel) (by decide +kernel), by decide +kernel, pm_inw_all (by decide +kernel)⟩
theorem hx_H_87 : pm_XW "RoommateHouse" 87 89 "java/lang/IndexOutOfBoundsException" := ⟨pm_mem 417 (by decide +kernel) (by decide +kernel), pm_mem 418 (by decide +kernel) (by decide +kernel), pm_mem 53 (by decide +kernel) (by decide +kernel), by decide +kernel, pm_inw_all (by decide +kernel)⟩
end
section
/-! which cell is what: 0 the house; 1 wishes, 2 lengths, 3 others (4 to 11), 12 places (13 to 20), 21 standings (22 to 29); 30 draft, 31 mates; 32 stable, 33 tried, 34 first, 35 often (36 to 43); 44 partition, 45 followers, 46 leaders, 47 odd sizes; 48 the other side: 49 sizes, 50 list, 51 partners, 52 times, 53 first, 54 nexts, 55 party sizes, 56 with, 57 lasts, 58 choices, 59 ranks; 60 out -/
def pm_shl : List (Nat × Nat) := [(0, 0), (0, 1), (1, 8), (2, 8), (1, 8), (1, 8), (1, 8), (1, 8), (1, 8), (1, 8), (1, 8), (1, 8), (2, 8), (1, 8), (1, 8), (1, 8), (1, 8), (1, 8), (1, 8), (1, 8), (1, 8), (2, 8), (1, 8), (1, 8), (1, 8), (1, 8), (1, 8), (1, 8), (1, 8), (1, 8),
  (0, 2), (1, 8), (0, 3), (1, 8), (1, 8), (2, 8), (1, 8), (1, 8), (1, 8), (1, 8), (1, 8), (1, 8), (1, 8), (1, 8), (0, 4), (1, 8), (1, 8), (1, 8),
  (0, 5), (1, 8), (1, 64), (1, 8), (1, 64), (1, 8), (1, 8), (1, 8), (1, 8), (1, 8), (1, 8), (1, 64), (3, 1)]
def pm_sh (i : Nat) : Nat × Nat := pm_shl.getD i (3, 0)
def pm_sr (i j : Nat) : Option Nat := match i with
  | 0 => ([some 1, some 30, some 32, some 44] : List (Option Nat)).getD j none
  | 1 => ([some 2, some 3, some 12, some 21] : List (Option Nat)).getD j none
  | 3 => if j < 8 then some (4 + j) else none
  | 12 => if j < 8 then some (13 + j) else none
  | 21 => if j < 8 then some (22 + j) else none
  | 30 => ([some 1, some 31] : List (Option Nat)).getD j none
  | 32 => ([some 1, some 33, some 34, some 35] : List (Option Nat)).getD j none
  | 35 => if j < 8 then some (36 + j) else none
  | 44 => ([some 1, some 45, some 46, some 47] : List (Option Nat)).getD j none
  | 48 => ([none, none, some 49, some 50, some 51, none, none, some 52, some 53, some 54, some 55, none, none, some 56, some 57, some 58, some 59] : List (Option Nat)).getD j none
  | _ => none
def pm_gok (n : Nat) (g : pG) : Prop := n ≤ g.1 ∧ g.2.1 = pm_sh ∧ ∀ i j, i < n → g.2.2 i j = pm_sr i j
theorem pm_gok.s {n : Nat} {g : pG} (h : pm_gok n g) {i : Nat} {x : Nat × Nat} (hx : pm_sh i = x) : g.2.1 i = x := by rw [h.2.1]; exact hx
theorem pm_gok.i {n : Nat} {g : pG} (h : pm_gok n g) {i : Nat} (hi : i < n) : i < g.1 := Nat.lt_of_lt_of_le hi h.1
theorem pm_gok.r {n : Nat} {g : pG} (h : pm_gok n g) {i j r : Nat} (hi : i < n) (hr : pm_sr i j = some r) : g.2.2 i j = some r := by rw [h.2.2 i j hi]; exact hr
theorem pm_gok.le {n n' : Nat} {g : pG} (h : pm_gok n g) (hn : n' ≤ n) : pm_gok n' g := ⟨Nat.le_trans hn h.1, h.2.1, fun i j hi => h.2.2 i j (Nat.lt_of_lt_of_le hi hn)⟩
theorem sh_4 : ∀ p, p < 8 → pm_sh (4 + p) = (1, 8) := by decide +kernel
theorem sh_13 : ∀ p, p < 8 → pm_sh (13 + p) = (1, 8) := by decide +kernel
theorem sh_22 : ∀ p, p < 8 → pm_sh (22 + p) = (1, 8) := by decide +kernel
theorem sh_36 : ∀ p, p < 8 → pm_sh (36 + p) = (1, 8) := by decide +kernel
theorem sr_3 {p : Nat} (h : p < 8) : pm_sr 3 p = some (4 + p) := if_pos h
theorem sr_12 {p : Nat} (h : p < 8) : pm_sr 12 p = some (13 + p) := if_pos h
theorem sr_21 {p : Nat} (h : p < 8) : pm_sr 21 p = some (22 + p) := if_pos h
theorem sr_35 {p : Nat} (h : p < 8) : pm_sr 35 p = some (36 + p) := if_pos h
/-- more room does no harm -/
theorem pm_Y_up {b : pB} {d d' : Nat} {k : pK} {pc : Nat} {f : Bool} {lo : List (Option pV)} {st : List pV} {g : pG} {σ : pI} {τ : pJ} {cu su mc ms : Nat} {E : pE} (hd : d ≤ d') (h : pm_Y b d k pc f lo st g σ τ cu su mc ms E) : pm_Y b d' k pc f lo st g σ τ cu su mc ms E := by
  intro p e R s m args below meth c H locs ls ad jk hF hR hI hL
  have h1 := hR.1
  have h2 := hR.2.1
  exact h p e R s m args below meth c H locs ls ad jk hF ⟨by omega, by omega, hR.2.2⟩ hI hL
theorem pm_C_up {b : pB} {d d' : Nat} {k : pK} {vs : List pV} {g : pG} {σ : pI} {τ : pJ} {mc ms : Nat} {E : pE} (hd : d ≤ d') (h : pm_C b d k vs g σ τ mc ms E) : pm_C b d' k vs g σ τ mc ms E := pm_Y_up hd h
/-- a method that reads and answers x -/
abbrev pm_Rd (x : Int32) (σ : pI) (τ : pJ) : pE := .inl (false, fun v σ' τ' => v = some x ∧ σ' = σ ∧ τ' = τ)
/-- a method that answers x and leaves σ₁, τ₁ -/
abbrev pm_Wi (x : Int32) (σ : pI) (τ : pJ) : pE := .inl (true, fun v σ' τ' => v = some x ∧ σ' = σ ∧ τ' = τ)
abbrev pm_Wv (σ : pI) (τ : pJ) : pE := .inl (true, fun v σ' τ' => v = none ∧ σ' = σ ∧ τ' = τ)
/-- a method whose end is known by a property of what it leaves -/
abbrev pm_Wp (P : Option Int32 → pI → Prop) (τ : pJ) : pE := .inl (true, fun v σ' τ' => P v σ' ∧ τ' = τ)
section PMCV
variable {b : pB} {d : Nat} {k k' : pK} {pc : Nat} {f : Bool} {lo : List (Option pV)} {rest : List pV} {g : pG} {σ : pI} {τ : pJ} {cu su mc ms : Nat} {E : pE}
theorem pm_callR {idx i ci : Nat} {stk : List pV} {T : u_T} {N : Nat} {x : Int32} (vs : List pV) (hB : pm_base b) (hd : decode k.2.1 pc = .ok (.invokevirtual idx, 3)) (hc : pm_CV k.1.cls idx k' vs.length)
    (hC : pm_C b d k' (pm_R i :: vs) g σ τ 0 0 (pm_Rd x σ τ)) (hs : g.2.1 i = (0, ci)) (hi : i < g.1) (hcl : pm_cl[ci]? = some (k'.1.cls, T, N))
    (hstk : stk = vs.reverse ++ pm_R i :: rest) (h1 : vs.all pm_one = true) (hj : vs.all pm_nj = true) (hn : vs.length + 1 ≤ k'.2.2.1) (hw : (rest.map pm_wt).sum ≤ 8) (hcu : cu ≤ mc) (hsu : su ≤ ms)
    (K : pm_Y b (d + 1) k (pc + 3) f lo (pm_I x :: rest) g σ τ cu su mc ms E) : pm_Y b (d + 1) k pc f lo stk g σ τ cu su mc ms E :=
  pm_callV hB hd hc hC hs hi hcl hstk h1 hj hn hw hcu hsu (fun v σ' τ' _ hq => by
    obtain ⟨rfl, rfl, rfl⟩ := hq
    rw [Bool.or_false]
    exact K)
theorem pm_callW {idx i ci : Nat} {stk : List pV} {T : u_T} {N : Nat} {x : Int32} {σ₁ : pI} {τ₁ : pJ} (vs : List pV) (hB : pm_base b) (hd : decode k.2.1 pc = .ok (.invokevirtual idx, 3)) (hc : pm_CV k.1.cls idx k' vs.length)
    (hC : pm_C b d k' (pm_R i :: vs) g σ τ 0 0 (pm_Wi x σ₁ τ₁)) (hs : g.2.1 i = (0, ci)) (hi : i < g.1) (hcl : pm_cl[ci]? = some (k'.1.cls, T, N))
    (hstk : stk = vs.reverse ++ pm_R i :: rest) (h1 : vs.all pm_one = true) (hj : vs.all pm_nj = true) (hn : vs.length + 1 ≤ k'.2.2.1) (hw : (rest.map pm_wt).sum ≤ 8) (hcu : cu ≤ mc) (hsu : su ≤ ms)
    (K : pm_Y b (d + 1) k (pc + 3) true lo (pm_I x :: rest) g σ₁ τ₁ cu su mc ms E) : pm_Y b (d + 1) k pc f lo stk g σ τ cu su mc ms E :=
  pm_callV hB hd hc hC hs hi hcl hstk h1 hj hn hw hcu hsu (fun v σ' τ' _ hq => by
    obtain ⟨rfl, rfl, rfl⟩ := hq
    rw [Bool.or_true]
    exact K)
theorem pm_callWv {idx i ci : Nat} {stk : List pV} {T : u_T} {N : Nat} {σ₁ : pI} {τ₁ : pJ} (vs : List pV) (hB : pm_base b) (hd : decode k.2.1 pc = .ok (.invokevirtual idx, 3)) (hc : pm_CV k.1.cls idx k' vs.length)
    (hC : pm_C b d k' (pm_R i :: vs) g σ τ 0 0 (pm_Wv σ₁ τ₁)) (hs : g.2.1 i = (0, ci)) (hi : i < g.1) (hcl : pm_cl[ci]? = some (k'.1.cls, T, N))
    (hstk : stk = vs.reverse ++ pm_R i :: rest) (h1 : vs.all pm_one = true) (hj : vs.all pm_nj = true) (hn : vs.length + 1 ≤ k'.2.2.1) (hw : (rest.map pm_wt).sum ≤ 8) (hcu : cu ≤ mc) (hsu : su ≤ ms)
    (K : pm_Y b (d + 1) k (pc + 3) true lo rest g σ₁ τ₁ cu su mc ms E) : pm_Y b (d + 1) k pc f lo stk g σ τ cu su mc ms E :=
  pm_callV hB hd hc hC hs hi hcl hstk h1 hj hn hw hcu hsu (fun v σ' τ' _ hq => by
    obtain ⟨rfl, rfl, rfl⟩ := hq
    rw [Bool.or_true]
    exact K)
theorem pm_callWp {idx i ci : Nat} {stk : List pV} {T : u_T} {N : Nat} {Pp : Option Int32 → pI → Prop} {τ₁ : pJ} (vs : List pV) (hB : pm_base b) (hd : decode k.2.1 pc = .ok (.invokevirtual idx, 3)) (hc : pm_CV k.1.cls idx k' vs.length)
    (hC : pm_C b d k' (pm_R i :: vs) g σ τ 0 0 (pm_Wp Pp τ₁)) (hs : g.2.1 i = (0, ci)) (hi : i < g.1) (hcl : pm_cl[ci]? = some (k'.1.cls, T, N))
    (hstk : stk = vs.reverse ++ pm_R i :: rest) (h1 : vs.all pm_one = true) (hj : vs.all pm_nj = true) (hn : vs.length + 1 ≤ k'.2.2.1) (hw : (rest.map pm_wt).sum ≤ 8) (hcu : cu ≤ mc) (hsu : su ≤ ms)
    (K : ∀ (v : Option Int32) (σ₁ : pI), v.isSome = k'.2.2.2.1.isSome → Pp v σ₁ → pm_Y b (d + 1) k (pc + 3) true lo (v.toList.map pm_I ++ rest) g σ₁ τ₁ cu su mc ms E) : pm_Y b (d + 1) k pc f lo stk g σ τ cu su mc ms E :=
  pm_callV hB hd hc hC hs hi hcl hstk h1 hj hn hw hcu hsu (fun v σ' τ' hv hq => by
    obtain ⟨h9, rfl⟩ := hq
    rw [Bool.or_true]
    exact K v σ' hv h9)
end PMCV
end
section
/-! the wishes: what is read of them -/
def bI (x : Bool) : Int32 := if x = true then nI 1 else nI 0
theorem pm_inc (a : Nat) : nI a + Int32.ofInt 1 = nI (a + 1) := nI_1 a
theorem pm_dec {a : Nat} (h : 1 ≤ a) : nI a + Int32.ofInt (-1) = nI (a - 1) := by
  obtain ⟨c, rfl⟩ : ∃ c, a = c + 1 := ⟨a - 1, by omega⟩
  exact pk_m1 c
section W1
variable {b : pB} {g : pG} {σ : pI} {τ : pJ} {d p q x y i h : Nat}
theorem c_W_count (hg : pm_gok 48 g)  : pm_C b d km_W_count [pm_R 1] g σ τ 0 0 (pm_Rd (σ 1 4) σ τ) := by
  show pm_Y b d km_W_count 0 false [some (pm_R 1)] [] g σ τ 0 0 0 0 _
  refine pm_aload_n d_W_count_0 rfl ?_
  refine pm_geti d_W_count_1 hf_W_26 (hg.s rfl) (hg.i (by decide)) rfl ?_
  exact pm_ireturn d_W_count_4 rfl (fun h => h) (Nat.le_refl _) (Nat.le_refl _) ⟨rfl, rfl, rfl⟩
theorem c_W_changes (hg : pm_gok 48 g)  : pm_C b d km_W_changes [pm_R 1] g σ τ 0 0 (pm_Rd (σ 1 5) σ τ) := by
  show pm_Y b d km_W_changes 0 false [some (pm_R 1)] [] g σ τ 0 0 0 0 _
  refine pm_aload_n d_W_changes_0 rfl ?_
  refine pm_geti d_W_changes_1 hf_W_30 (hg.s rfl) (hg.i (by decide)) rfl ?_
  exact pm_ireturn d_W_changes_4 rfl (fun h => h) (Nat.le_refl _) (Nat.le_refl _) ⟨rfl, rfl, rfl⟩
theorem c_W_length (hg : pm_gok 48 g) (hp : p < 8) : pm_C b d km_W_length [pm_R 1, pm_I (nI p)] g σ τ 0 0 (pm_Rd (σ 2 p) σ τ) := by
  show pm_Y b d km_W_length 0 false [some (pm_R 1), some (pm_I (nI p))] [] g σ τ 0 0 0 0 _
  refine pm_aload_n d_W_length_0 rfl ?_
  refine pm_getr d_W_length_1 hf_W_9 (hg.s rfl) (hg.i (by decide)) rfl (hg.r (by decide) rfl) ?_
  refine pm_iload_n d_W_length_4 rfl ?_
  refine pm_iaload p d_W_length_5 (hg.s rfl) (hg.i (by decide)) rfl hp (by decide) ?_
  exact pm_ireturn d_W_length_6 rfl (fun h => h) (Nat.le_refl _) (Nat.le_refl _) ⟨rfl, rfl, rfl⟩
theorem c_W_otherAt (hg : pm_gok 48 g) (hp : p < 8) (hi : i < 8) : pm_C b d km_W_otherAt [pm_R 1, pm_I (nI p), pm_I (nI i)] g σ τ 0 0 (pm_Rd (σ (4 + p) i) σ τ) := by
  show pm_Y b d km_W_otherAt 0 false [some (pm_R 1), some (pm_I (nI p)), some (pm_I (nI i))] [] g σ τ 0 0 0 0 _
  refine pm_aload_n d_W_otherAt_0 rfl ?_
  refine pm_getr d_W_otherAt_1 hf_W_17 (hg.s rfl) (hg.i (by decide)) rfl (hg.r (by decide) rfl) ?_
  refine pm_iload_n d_W_otherAt_4 rfl ?_
  refine pm_aaload p d_W_otherAt_5 (hg.s rfl) (hg.i (by decide)) rfl hp (by decide) (hg.r (by decide) (sr_3 hp)) ?_
  refine pm_iload_n d_W_otherAt_6 rfl ?_
  refine pm_iaload i d_W_otherAt_7 (hg.s (sh_4 _ hp)) (hg.i (by have := (hp : p < 8); omega)) rfl hi (by decide) ?_
  exact pm_ireturn d_W_otherAt_8 rfl (fun h => h) (Nat.le_refl _) (Nat.le_refl _) ⟨rfl, rfl, rfl⟩
theorem c_W_placeOf (hg : pm_gok 48 g) (hp : p < 8) (hq : q < 8) : pm_C b d km_W_placeOf [pm_R 1, pm_I (nI p), pm_I (nI q)] g σ τ 0 0 (pm_Rd (σ (13 + p) q) σ τ) := by
  show pm_Y b d km_W_placeOf 0 false [some (pm_R 1), some (pm_I (nI p)), some (pm_I (nI q))] [] g σ τ 0 0 0 0 _
  refine pm_aload_n d_W_placeOf_0 rfl ?_
  refine pm_getr d_W_placeOf_1 hf_W_20 (hg.s rfl) (hg.i (by decide)) rfl (hg.r (by decide) rfl) ?_
  refine pm_iload_n d_W_placeOf_4 rfl ?_
  refine pm_aaload p d_W_placeOf_5 (hg.s rfl) (hg.i (by decide)) rfl hp (by decide) (hg.r (by decide) (sr_12 hp)) ?_
  refine pm_iload_n d_W_placeOf_6 rfl ?_
  refine pm_iaload q d_W_placeOf_7 (hg.s (sh_13 _ hp)) (hg.i (by have := (hp : p < 8); omega)) rfl hq (by decide) ?_
  exact pm_ireturn d_W_placeOf_8 rfl (fun h => h) (Nat.le_refl _) (Nat.le_refl _) ⟨rfl, rfl, rfl⟩
theorem c_W_arePossible (hg : pm_gok 48 g) (hp : p < 8) (hq : q < 8) : pm_C b d km_W_arePossible [pm_R 1, pm_I (nI p), pm_I (nI q)] g σ τ 0 0 (pm_Rd (bI (!decide (nI 8 ≤ σ (22 + p) q))) σ τ) := by
  show pm_Y b d km_W_arePossible 0 false [some (pm_R 1), some (pm_I (nI p)), some (pm_I (nI q))] [] g σ τ 0 0 0 0 _
  refine pm_aload_n d_W_arePossible_0 rfl ?_
  refine pm_getr d_W_arePossible_1 hf_W_23 (hg.s rfl) (hg.i (by decide)) rfl (hg.r (by decide) rfl) ?_
  refine pm_iload_n d_W_arePossible_4 rfl ?_
  refine pm_aaload p d_W_arePossible_5 (hg.s rfl) (hg.i (by decide)) rfl hp (by decide) (hg.r (by decide) (sr_21 hp)) ?_
  refine pm_iload_n d_W_arePossible_6 rfl ?_
  refine pm_iaload q d_W_arePossible_7 (hg.s (sh_22 _ hp)) (hg.i (by have := (hp : p < 8); omega)) rfl hq (by decide) ?_
  refine pm_bipush' (nI 8) d_W_arePossible_8 (by decide) ?_
  refine pm_icmp_ge 17 d_W_arePossible_10 rfl (fun c10 => ?_) (fun c10 => ?_)
  · refine pm_iconst' (nI 0) d_W_arePossible_17 (by decide) ?_
    exact pm_zreturn d_W_arePossible_18 rfl (Or.inl rfl) (fun h => h) (Nat.le_refl _) (Nat.le_refl _) ⟨by simp [bI, c10], rfl, rfl⟩
  · refine pm_iconst' (nI 1) d_W_arePossible_13 (by decide) ?_
    refine pm_goto 18 d_W_arePossible_14 rfl ?_
    exact pm_zreturn d_W_arePossible_18 rfl (Or.inr rfl) (fun h => h) (Nat.le_refl _) (Nat.le_refl _) ⟨by simp [bI, c10], rfl, rfl⟩
theorem c_W_prefers (hg : pm_gok 48 g) (hp : p < 8) (hq : q < 8) (hx : x < 8) : pm_C b d km_W_prefers [pm_R 1, pm_I (nI p), pm_I (nI q), pm_I (nI x)] g σ τ 0 0 (pm_Rd (bI (!decide (σ (22 + p) x ≤ σ (22 + p) q))) σ τ) := by
  show pm_Y b d km_W_prefers 0 false [some (pm_R 1), some (pm_I (nI p)), some (pm_I (nI q)), some (pm_I (nI x))] [] g σ τ 0 0 0 0 _
  refine pm_aload_n d_W_prefers_0 rfl ?_
  refine pm_getr d_W_prefers_1 hf_W_23 (hg.s rfl) (hg.i (by decide)) rfl (hg.r (by decide) rfl) ?_
  refine pm_iload_n d_W_prefers_4 rfl ?_
  refine pm_aaload p d_W_prefers_5 (hg.s rfl) (hg.i (by decide)) rfl hp (by decide) (hg.r (by decide) (sr_21 hp)) ?_
  refine pm_iload_n d_W_prefers_6 rfl ?_
  refine pm_iaload q d_W_prefers_7 (hg.s (sh_22 _ hp)) (hg.i (by have := (hp : p < 8); omega)) rfl hq (by decide) ?_
  refine pm_aload_n d_W_prefers_8 rfl ?_
  refine pm_getr d_W_prefers_9 hf_W_23 (hg.s rfl) (hg.i (by decide)) rfl (hg.r (by decide) rfl) ?_
  refine pm_iload_n d_W_prefers_12 rfl ?_
  refine pm_aaload p d_W_prefers_13 (hg.s rfl) (hg.i (by decide)) rfl hp (by decide) (hg.r (by decide) (sr_21 hp)) ?_
  refine pm_iload_n d_W_prefers_14 rfl ?_
  refine pm_iaload x d_W_prefers_15 (hg.s (sh_22 _ hp)) (hg.i (by have := (hp : p < 8); omega)) rfl hx (by decide) ?_
  refine pm_icmp_ge 23 d_W_prefers_16 rfl (fun c16 => ?_) (fun c16 => ?_)
  · refine pm_iconst' (nI 0) d_W_prefers_23 (by decide) ?_
    exact pm_zreturn d_W_prefers_24 rfl (Or.inl rfl) (fun h => h) (Nat.le_refl _) (Nat.le_refl _) ⟨by simp [bI, c16], rfl, rfl⟩
  · refine pm_iconst' (nI 1) d_W_prefers_19 (by decide) ?_
    refine pm_goto 24 d_W_prefers_20 rfl ?_
    exact pm_zreturn d_W_prefers_24 rfl (Or.inr rfl) (fun h => h) (Nat.le_refl _) (Nat.le_refl _) ⟨by simp [bI, c16], rfl, rfl⟩
theorem c_W_wouldBlock (hg : pm_gok 48 g) (hp : p < 8) (hq : q < 8) (hs : pm_sh h = (1, 8)) (hl : h < g.1) (ex : σ h p = nI x) (ey : σ h q = nI y) (hx : x < 8) (hy : y < 8) : pm_C b d km_W_wouldBlock [pm_R 1, pm_I (nI p), pm_I (nI q), pm_R h] g σ τ 0 0 (pm_Rd (bI (!decide (σ (22 + p) x ≤ σ (22 + p) q) && !decide (σ (22 + q) y ≤ σ (22 + q) p))) σ τ) := by
  show pm_Y b d km_W_wouldBlock 0 false [some (pm_R 1), some (pm_I (nI p)), some (pm_I (nI q)), some (pm_R h)] [] g σ τ 0 0 0 0 _
  refine pm_aload_n d_W_wouldBlock_0 rfl ?_
  refine pm_getr d_W_wouldBlock_1 hf_W_23 (hg.s rfl) (hg.i (by decide)) rfl (hg.r (by decide) rfl) ?_
  refine pm_iload_n d_W_wouldBlock_4 rfl ?_
  refine pm_aaload p d_W_wouldBlock_5 (hg.s rfl) (hg.i (by decide)) rfl hp (by decide) (hg.r (by decide) (sr_21 hp)) ?_
  refine pm_iload_n d_W_wouldBlock_6 rfl ?_
  refine pm_iaload q d_W_wouldBlock_7 (hg.s (sh_22 _ hp)) (hg.i (by have := (hp : p < 8); omega)) rfl hq (by decide) ?_
  refine pm_aload_n d_W_wouldBlock_8 rfl ?_
  refine pm_getr d_W_wouldBlock_9 hf_W_23 (hg.s rfl) (hg.i (by decide)) rfl (hg.r (by decide) rfl) ?_
  refine pm_iload_n d_W_wouldBlock_12 rfl ?_
  refine pm_aaload p d_W_wouldBlock_13 (hg.s rfl) (hg.i (by decide)) rfl hp (by decide) (hg.r (by decide) (sr_21 hp)) ?_
  refine pm_aload_n d_W_wouldBlock_14 rfl ?_
  refine pm_iload_n d_W_wouldBlock_15 rfl ?_
  refine pm_iaload' p (nI x) d_W_wouldBlock_16 (hg.s hs) hl rfl hp (by decide) ex ?_
  refine pm_iaload x d_W_wouldBlock_17 (hg.s (sh_22 _ hp)) (hg.i (by have := (hp : p < 8); omega)) rfl hx (by decide) ?_
  refine pm_icmp_ge 46 d_W_wouldBlock_18 rfl (fun c18 => ?_) (fun c18 => ?_)
  · refine pm_iconst' (nI 0) d_W_wouldBlock_46 (by decide) ?_
    exact pm_zreturn d_W_wouldBlock_47 rfl (Or.inl rfl) (fun h => h) (Nat.le_refl _) (Nat.le_refl _) ⟨by simp [bI, c18], rfl, rfl⟩
  · refine pm_aload_n d_W_wouldBlock_21 rfl ?_
    refine pm_getr d_W_wouldBlock_22 hf_W_23 (hg.s rfl) (hg.i (by decide)) rfl (hg.r (by decide) rfl) ?_
    refine pm_iload_n d_W_wouldBlock_25 rfl ?_
    refine pm_aaload q d_W_wouldBlock_26 (hg.s rfl) (hg.i (by decide)) rfl hq (by decide) (hg.r (by decide) (sr_21 hq)) ?_
    refine pm_iload_n d_W_wouldBlock_27 rfl ?_
    refine pm_iaload p d_W_wouldBlock_28 (hg.s (sh_22 _ hq)) (hg.i (by have := (hq : q < 8); omega)) rfl hp (by decide) ?_
    refine pm_aload_n d_W_wouldBlock_29 rfl ?_
    refine pm_getr d_W_wouldBlock_30 hf_W_23 (hg.s rfl) (hg.i (by decide)) rfl (hg.r (by decide) rfl) ?_
    refine pm_iload_n d_W_wouldBlock_33 rfl ?_
    refine pm_aaload q d_W_wouldBlock_34 (hg.s rfl) (hg.i (by decide)) rfl hq (by decide) (hg.r (by decide) (sr_21 hq)) ?_
    refine pm_aload_n d_W_wouldBlock_35 rfl ?_
    refine pm_iload_n d_W_wouldBlock_36 rfl ?_
    refine pm_iaload' q (nI y) d_W_wouldBlock_37 (hg.s hs) hl rfl hq (by decide) ey ?_
    refine pm_iaload y d_W_wouldBlock_38 (hg.s (sh_22 _ hq)) (hg.i (by have := (hq : q < 8); omega)) rfl hy (by decide) ?_
    refine pm_icmp_ge 46 d_W_wouldBlock_39 rfl (fun c39 => ?_) (fun c39 => ?_)
    · refine pm_iconst' (nI 0) d_W_wouldBlock_46 (by decide) ?_
      exact pm_zreturn d_W_wouldBlock_47 rfl (Or.inl rfl) (fun h => h) (Nat.le_refl _) (Nat.le_refl _) ⟨by simp [bI, c18, c39], rfl, rfl⟩
    · refine pm_iconst' (nI 1) d_W_wouldBlock_42 (by decide) ?_
      refine pm_goto 47 d_W_wouldBlock_43 rfl ?_
      exact pm_zreturn d_W_wouldBlock_47 rfl (Or.inr rfl) (fun h => h) (Nat.le_refl _) (Nat.le_refl _) ⟨by simp [bI, c18, c39], rfl, rfl⟩
theorem c_W_set (hg : pm_gok 48 g) (hp : p < 8) (hi : i < 8) (hq : q < 8) : pm_C b d km_W_set [pm_R 1, pm_I (nI p), pm_I (nI i), pm_I (nI q)] g σ τ 0 0 (pm_Wv (pm_up (pm_up σ (4 + p) i (nI q)) (13 + p) q (nI i)) τ) := by
  show pm_Y b d km_W_set 0 false [some (pm_R 1), some (pm_I (nI p)), some (pm_I (nI i)), some (pm_I (nI q))] [] g σ τ 0 0 0 0 _
  refine pm_aload_n d_W_set_0 rfl ?_
  refine pm_getr d_W_set_1 hf_W_17 (hg.s rfl) (hg.i (by decide)) rfl (hg.r (by decide) rfl) ?_
  refine pm_iload_n d_W_set_4 rfl ?_
  refine pm_aaload p d_W_set_5 (hg.s rfl) (hg.i (by decide)) rfl hp (by decide) (hg.r (by decide) (sr_3 hp)) ?_
  refine pm_iload_n d_W_set_6 rfl ?_
  refine pm_iload_n d_W_set_7 rfl ?_
  refine pm_iastore i d_W_set_8 (hg.s (sh_4 _ hp)) (hg.i (by have := (hp : p < 8); omega)) rfl hi (by decide) ?_
  refine pm_aload_n d_W_set_9 rfl ?_
  refine pm_getr d_W_set_10 hf_W_20 (hg.s rfl) (hg.i (by decide)) rfl (hg.r (by decide) rfl) ?_
  refine pm_iload_n d_W_set_13 rfl ?_
  refine pm_aaload p d_W_set_14 (hg.s rfl) (hg.i (by decide)) rfl hp (by decide) (hg.r (by decide) (sr_12 hp)) ?_
  refine pm_iload_n d_W_set_15 rfl ?_
  refine pm_iload_n d_W_set_16 rfl ?_
  refine pm_iastore q d_W_set_17 (hg.s (sh_13 _ hp)) (hg.i (by have := (hp : p < 8); omega)) rfl hq (by decide) ?_
  exact pm_return d_W_set_18 rfl (fun _ => rfl) (Nat.le_refl _) (Nat.le_refl _) ⟨rfl, rfl, rfl⟩
end W1
end
section
/-! the wishes: clear, noteChange -/
theorem pm_for {α : Type} (N : Nat) (Y I : Nat → α → Prop) (hs : ∀ i a, i < N → I i a → (∀ a', I (i + 1) a' → Y (i + 1) a') → Y i a) (hx : ∀ a, I N a → Y N a) : ∀ (m i : Nat) (a : α), i + m = N → I i a → Y i a
  | 0, i, a, h, hI => by
    have e : i = N := by omega
    subst e
    exact hx a hI
  | m + 1, i, a, h, hI => hs i a (by omega) hI (fun a' hI' => pm_for N Y I hs hx m (i + 1) a' (by omega) hI')
theorem pm_flag {b : pB} {d : Nat} {k : pK} {pc : Nat} {f : Bool} {lo : List (Option pV)} {st : List pV} {g : pG} {σ : pI} {τ : pJ} {cu su mc ms : Nat} {E : pE} (h : pm_Y b d k pc true lo st g σ τ cu su mc ms E) : pm_Y b d k pc f lo st g σ τ cu su mc ms E := by
  intro p e R s m args below meth c H locs ls ad jk hF hR hI hL
  exact h p e R s m args below meth c H locs ls ad jk hF hR ⟨hI.1, hI.2.1, hI.2.2.1, fun h => by cases h⟩ hL
def cl_row (σ₀ : pI) (p j : Nat) (σ : pI) : Prop := (∀ q, q < j → σ (13 + p) q = -1 ∧ σ (22 + p) q = nI (if p = q then 8 else 9)) ∧ ∀ c x, c ≠ 13 + p → c ≠ 22 + p → σ c x = σ₀ c x
def cl_all (σ₀ : pI) (n i : Nat) (σ : pI) : Prop := σ 1 4 = nI n ∧ σ 1 5 = σ₀ 1 5 ∧ (∀ p, p < i → σ 2 p = nI 0) ∧ (∀ p q, p < i → q < 8 → σ (13 + p) q = -1 ∧ σ (22 + p) q = nI (if p = q then 8 else 9)) ∧ ∀ c x, c = 0 ∨ (3 ≤ c ∧ c ≤ 12) ∨ 30 ≤ c → σ c x = σ₀ c x
def cl_end (σ₀ : pI) (n : Nat) (σ : pI) : Prop := σ 1 4 = nI n ∧ σ 1 5 = σ₀ 1 5 + nI 1 ∧ (∀ p, p < 8 → σ 2 p = nI 0) ∧ (∀ p q, p < 8 → q < 8 → σ (13 + p) q = -1 ∧ σ (22 + p) q = nI (if p = q then 8 else 9)) ∧ ∀ c x, c = 0 ∨ (3 ≤ c ∧ c ≤ 12) ∨ 30 ≤ c → σ c x = σ₀ c x
theorem cl_row_s {σ₀ σ : pI} {p j : Nat} (h : cl_row σ₀ p j σ) {v : Int32} (hv : v = nI (if p = j then 8 else 9)) : cl_row σ₀ p (j + 1) (pm_up (pm_up σ (13 + p) j (-1)) (22 + p) j v) := by
  refine ⟨fun q hq => ?_, fun c x h1 h2 => ?_⟩
  · by_cases e : q = j
    · subst e
      refine ⟨?_, ?_⟩
      · rw [pm_up_ne (by omega), pm_up_at]
      · rw [pm_up_at]; exact hv
    · have h3 := h.1 q (by omega)
      rw [pm_up_ne (by omega), pm_up_ne (by omega), pm_up_ne (by omega), pm_up_ne (by omega)]
      exact h3
  · rw [pm_up_ne (by omega), pm_up_ne (by omega)]
    exact h.2 c x h1 h2
theorem cl_all_s {σ₀ σ σ' : pI} {n i : Nat} (h : cl_all σ₀ n i σ) (hr : cl_row (pm_up σ 2 i (nI 0)) i 8 σ') (hi : i < 8) : cl_all σ₀ n (i + 1) σ' := by
  obtain ⟨h1, h2, h3, h4, h5⟩ := h
  obtain ⟨r1, r2⟩ := hr
  refine ⟨?_, ?_, fun p hp => ?_, fun p q hp hq => ?_, fun c x hc => ?_⟩
  · rw [r2 1 4 (by omega) (by omega), pm_up_ne (by omega)]; exact h1
  · rw [r2 1 5 (by omega) (by omega), pm_up_ne (by omega)]; exact h2
  · rw [r2 2 p (by omega) (by omega)]
    by_cases e : p = i
    · subst e; rw [pm_up_at]
    · rw [pm_up_ne (by omega)]; exact h3 p (by omega)
  · by_cases e : p = i
    · subst e; exact r1 q hq
    · rw [r2 (13 + p) q (by omega) (by omega), r2 (22 + p) q (by omega) (by omega), pm_up_ne (by omega), pm_up_ne (by omega)]
      exact h4 p q (by omega) hq
  · rw [r2 c x (by omega) (by omega), pm_up_ne (by omega)]
    exact h5 c x hc
section W2
variable {b : pB} {g : pG} {σ : pI} {τ : pJ} {d p q x y i h n : Nat}
theorem l_W_clear_22 (hg : pm_gok 48 g) (hp : p < 8) {σ₁ : pI} {E : pE} (K : ∀ σ', cl_row σ₁ p 8 σ' → pm_Y b d km_W_clear 63 true [some (pm_R 1), some (pm_I (nI n)), some (pm_I (nI p)), some (pm_I (nI 8))] [] g σ' τ 0 0 0 0 E) : pm_Y b d km_W_clear 22 true [some (pm_R 1), some (pm_I (nI n)), some (pm_I (nI p)), some (pm_I (nI 0))] [] g σ₁ τ 0 0 0 0 E := by
  refine pm_for 8 (fun j σ₂ => pm_Y b d km_W_clear 22 true [some (pm_R 1), some (pm_I (nI n)), some (pm_I (nI p)), some (pm_I (nI j))] [] g σ₂ τ 0 0 0 0 E) (cl_row σ₁ p) (fun j σ₂ hj hI ih => ?_) (fun σ₂ hI => ?_) 8 0 σ₁ rfl ⟨fun q hq => absurd hq (Nat.not_lt_zero q), fun _ _ _ _ => rfl⟩
  · refine pm_iload_n d_W_clear_22 rfl ?_
    refine pm_bipush' (nI 8) d_W_clear_23 (by decide) ?_
    refine pm_icmp_ge_f 63 d_W_clear_25 rfl (by rw [nI_leI (by omega) (by omega)]; omega) ?_
    refine pm_aload_n d_W_clear_28 rfl ?_
    refine pm_getr d_W_clear_29 hf_W_20 (hg.s rfl) (hg.i (by decide)) rfl (hg.r (by decide) rfl) ?_
    refine pm_iload_n d_W_clear_32 rfl ?_
    refine pm_aaload p d_W_clear_33 (hg.s rfl) (hg.i (by decide)) rfl hp (by decide) (hg.r (by decide) (sr_12 hp)) ?_
    refine pm_iload_n d_W_clear_34 rfl ?_
    refine pm_iconst' (-1) d_W_clear_35 (by decide) ?_
    refine pm_iastore j d_W_clear_36 (hg.s (sh_13 _ hp)) (hg.i (by have := (hp : p < 8); omega)) rfl hj (by decide) ?_
    refine pm_aload_n d_W_clear_37 rfl ?_
    refine pm_getr d_W_clear_38 hf_W_23 (hg.s rfl) (hg.i (by decide)) rfl (hg.r (by decide) rfl) ?_
    refine pm_iload_n d_W_clear_41 rfl ?_
    refine pm_aaload p d_W_clear_42 (hg.s rfl) (hg.i (by decide)) rfl hp (by decide) (hg.r (by decide) (sr_21 hp)) ?_
    refine pm_iload_n d_W_clear_43 rfl ?_
    refine pm_iload_n d_W_clear_44 rfl ?_
    refine pm_iload_n d_W_clear_45 rfl ?_
    refine pm_icmp_neN 54 d_W_clear_46 rfl (by omega) (by omega) (fun c46 => ?_) (fun c46 => ?_)
    · refine pm_bipush' (nI 9) d_W_clear_54 (by decide) ?_
      refine pm_iastore j d_W_clear_56 (hg.s (sh_22 _ hp)) (hg.i (by have := (hp : p < 8); omega)) rfl hj (by decide) ?_
      refine pm_iinc' (nI (j + 1)) d_W_clear_57 (by decide) rfl (pm_inc _) ?_
      refine pm_goto 22 d_W_clear_60 rfl ?_
      -- at 22: lo=[some (pm_R 1), some (pm_I (nI n)), some (pm_I (nI p)), some (pm_I (nI (j + 1)))] st=[]
      exact ih _ (cl_row_s hI (by simp [c46]))
    · refine pm_bipush' (nI 8) d_W_clear_49 (by decide) ?_
      refine pm_goto 56 d_W_clear_51 rfl ?_
      refine pm_iastore j d_W_clear_56 (hg.s (sh_22 _ hp)) (hg.i (by have := (hp : p < 8); omega)) rfl hj (by decide) ?_
      refine pm_iinc' (nI (j + 1)) d_W_clear_57 (by decide) rfl (pm_inc _) ?_
      refine pm_goto 22 d_W_clear_60 rfl ?_
      -- at 22: lo=[some (pm_R 1), some (pm_I (nI n)), some (pm_I (nI p)), some (pm_I (nI (j + 1)))] st=[]
      exact ih _ (cl_row_s hI (by simp [c46]))
  · refine pm_iload_n d_W_clear_22 rfl ?_
    refine pm_bipush' (nI 8) d_W_clear_23 (by decide) ?_
    refine pm_icmp_ge_t 63 d_W_clear_25 rfl (by decide) ?_
    exact K σ₂ hI
theorem cl_fin {σ₀ σ : pI} {n : Nat} (h : cl_all σ₀ n 8 σ) : cl_end σ₀ n (pm_up σ 1 5 (σ 1 5 + nI 1)) := by
  obtain ⟨h1, h2, h3, h4, h5⟩ := h
  refine ⟨?_, ?_, fun p hp => ?_, fun p q hp hq => ?_, fun c x hc => ?_⟩
  · rw [pm_up_ne (by omega)]; exact h1
  · rw [pm_up_at, h2]
  · rw [pm_up_ne (by omega)]; exact h3 p hp
  · rw [pm_up_ne (by omega), pm_up_ne (by omega)]; exact h4 p q hp hq
  · rw [pm_up_ne (by omega)]; exact h5 c x hc
theorem l_W_clear_7 (hg : pm_gok 48 g) {σ₁ : pI} (h0 : cl_all σ n 0 σ₁) (l3 : Option pV) : pm_Y b d km_W_clear 7 true [some (pm_R 1), some (pm_I (nI n)), some (pm_I (nI 0)), l3] [] g σ₁ τ 0 0 0 0 (pm_Wp (fun v σ' => v = none ∧ cl_end σ n σ') τ) := by
  refine pm_for 8 (fun p σ₂ => ∀ l3 : Option pV, pm_Y b d km_W_clear 7 true [some (pm_R 1), some (pm_I (nI n)), some (pm_I (nI p)), l3] [] g σ₂ τ 0 0 0 0 (pm_Wp (fun v σ' => v = none ∧ cl_end σ n σ') τ)) (cl_all σ n) (fun p σ₂ hp hI ih3 l3 => ?_) (fun σ₂ hI l3 => ?_) 8 0 σ₁ rfl h0 l3
  · refine pm_iload_n d_W_clear_7 rfl ?_
    refine pm_bipush' (nI 8) d_W_clear_8 (by decide) ?_
    refine pm_icmp_ge_f 69 d_W_clear_10 rfl (by rw [nI_leI (by omega) (by omega)]; omega) ?_
    refine pm_aload_n d_W_clear_13 rfl ?_
    refine pm_getr d_W_clear_14 hf_W_9 (hg.s rfl) (hg.i (by decide)) rfl (hg.r (by decide) rfl) ?_
    refine pm_iload_n d_W_clear_17 rfl ?_
    refine pm_iconst' (nI 0) d_W_clear_18 (by decide) ?_
    refine pm_iastore p d_W_clear_19 (hg.s rfl) (hg.i (by decide)) rfl hp (by decide) ?_
    refine pm_iconst' (nI 0) d_W_clear_20 (by decide) ?_
    refine pm_istore_n d_W_clear_21 (by decide) ?_
    -- at 22: lo=[some (pm_R 1), some (pm_I (nI n)), some (pm_I (nI p)), some (pm_I (nI 0))] st=[]
    refine l_W_clear_22 hg hp (fun σ₃ hr => ?_)
    refine pm_iinc' (nI (p + 1)) d_W_clear_63 (by decide) rfl (pm_inc _) ?_
    refine pm_goto 7 d_W_clear_66 rfl ?_
    -- at 7: lo=[some (pm_R 1), some (pm_I (nI n)), some (pm_I (nI (p + 1))), some (pm_I (nI 8))] st=[]
    exact ih3 _ (cl_all_s hI hr hp) _
  · refine pm_iload_n d_W_clear_7 rfl ?_
    refine pm_bipush' (nI 8) d_W_clear_8 (by decide) ?_
    refine pm_icmp_ge_t 69 d_W_clear_10 rfl (by decide) ?_
    refine pm_aload_n d_W_clear_69 rfl ?_
    refine pm_dup d_W_clear_70 rfl ?_
    refine pm_geti d_W_clear_71 hf_W_30 (hg.s rfl) (hg.i (by decide)) rfl ?_
    refine pm_iconst' (nI 1) d_W_clear_74 (by decide) ?_
    refine pm_iadd d_W_clear_75 ?_
    refine pm_puti d_W_clear_76 hp_W_30 (hg.s rfl) (hg.i (by decide)) rfl ?_
    exact pm_return d_W_clear_79 rfl (fun _ => rfl) (Nat.le_refl _) (Nat.le_refl _) ⟨⟨rfl, cl_fin hI⟩, rfl⟩
theorem c_W_clear (hg : pm_gok 48 g) : pm_C b d km_W_clear [pm_R 1, pm_I (nI n)] g σ τ 0 0 (pm_Wp (fun v σ' => v = none ∧ cl_end σ n σ') τ) := by
  show pm_Y b d km_W_clear 0 false [some (pm_R 1), some (pm_I (nI n)), none, none] [] g σ τ 0 0 0 0 _
  refine pm_aload_n d_W_clear_0 rfl ?_
  refine pm_iload_n d_W_clear_1 rfl ?_
  refine pm_puti d_W_clear_2 hp_W_26 (hg.s rfl) (hg.i (by decide)) rfl ?_
  refine pm_iconst' (nI 0) d_W_clear_5 (by decide) ?_
  refine pm_istore_n d_W_clear_6 (by decide) ?_
  -- at 7: lo=[some (pm_R 1), some (pm_I (nI n)), some (pm_I (nI 0)), none] st=[]
  refine l_W_clear_7 hg ⟨pm_up_at, pm_up_ne (by omega), fun p hp => absurd hp (Nat.not_lt_zero p), fun p q hp => absurd hp (Nat.not_lt_zero p), fun c x hc => pm_up_ne (by omega)⟩ none
end W2
end
section
/-! the wishes: noteChange, slide -/
def nc_v (σ : pI) (p q : Nat) : Int32 := if σ (13 + p) q = -1 ∨ σ (13 + q) p = -1 then nI 9 else σ (13 + p) q
def nc_I (σ₀ : pI) (p i : Nat) (σ : pI) : Prop := (∀ q, q < i → q ≠ p → σ (22 + p) q = nc_v σ₀ p q ∧ σ (22 + q) p = nc_v σ₀ q p) ∧ σ (22 + p) p = σ₀ (22 + p) p ∧ ∀ c x, ¬ (22 ≤ c ∧ c < 30 ∧ (c = 22 + p ∨ x = p)) → σ c x = σ₀ c x
def nc_end (σ₀ : pI) (p : Nat) (σ : pI) : Prop := (∀ q, q < 8 → q ≠ p → σ (22 + p) q = nc_v σ₀ p q ∧ σ (22 + q) p = nc_v σ₀ q p) ∧ σ (22 + p) p = σ₀ (22 + p) p ∧ σ 1 5 = σ₀ 1 5 + nI 1 ∧ ∀ c x, ¬ (22 ≤ c ∧ c < 30 ∧ (c = 22 + p ∨ x = p)) → ¬ (c = 1 ∧ x = 5) → σ c x = σ₀ c x
theorem nc_skip {σ₀ σ : pI} {p : Nat} (h : nc_I σ₀ p p σ) : nc_I σ₀ p (p + 1) σ := ⟨fun q hq hne => h.1 q (by omega) hne, h.2⟩
theorem nc_step {σ₀ σ : pI} {p i : Nat} (h : nc_I σ₀ p i σ) (hp : p < 8) (hi : i < 8) (hne : i ≠ p) {v w : Int32} (hv : v = nc_v σ p i) (hw : w = nc_v σ i p) : nc_I σ₀ p (i + 1) (pm_up (pm_up σ (22 + p) i v) (22 + i) p w) := by
  obtain ⟨h1, h2, h3⟩ := h
  have e1 : nc_v σ p i = nc_v σ₀ p i := by unfold nc_v; rw [h3 (13 + p) i (by omega), h3 (13 + i) p (by omega)]
  have e2 : nc_v σ i p = nc_v σ₀ i p := by unfold nc_v; rw [h3 (13 + p) i (by omega), h3 (13 + i) p (by omega)]
  refine ⟨fun q hq hqp => ?_, ?_, fun c x hc => ?_⟩
  · by_cases e : q = i
    · subst e
      rw [pm_up_ne (by omega), pm_up_at, pm_up_at, hv, hw, e1, e2]
      exact ⟨rfl, rfl⟩
    · rw [pm_up_ne (by omega), pm_up_ne (by omega), pm_up_ne (by omega), pm_up_ne (by omega)]
      exact h1 q (by omega) hqp
  · rw [pm_up_ne (by omega), pm_up_ne (by omega)]; exact h2
  · rw [pm_up_ne (by omega), pm_up_ne (by omega)]; exact h3 c x hc
theorem nc_fin {σ₀ σ : pI} {p : Nat} (h : nc_I σ₀ p 8 σ) : nc_end σ₀ p (pm_up σ 1 5 (σ 1 5 + nI 1)) := by
  obtain ⟨h1, h2, h3⟩ := h
  refine ⟨fun q hq hqp => ?_, ?_, ?_, fun c x hc hn => ?_⟩
  · rw [pm_up_ne (by omega), pm_up_ne (by omega)]; exact h1 q hq hqp
  · rw [pm_up_ne (by omega)]; exact h2
  · rw [pm_up_at, h3 1 5 (by omega)]
  · rw [pm_up_ne (by omega)]; exact h3 c x hc
section W3
variable {b : pB} {g : pG} {σ : pI} {τ : pJ} {d p q x y i h n : Nat}
theorem c_W_noteChange (hg : pm_gok 48 g) (hp : p < 8) : pm_C b d km_W_noteChange [pm_R 1, pm_I (nI p)] g σ τ 0 0 (pm_Wp (fun v σ' => v = none ∧ nc_end σ p σ') τ) := by
  show pm_Y b d km_W_noteChange 0 false [some (pm_R 1), some (pm_I (nI p)), none, none] [] g σ τ 0 0 0 0 _
  refine pm_iconst' (nI 0) d_W_noteChange_0 (by decide) ?_
  refine pm_istore_n d_W_noteChange_1 (by decide) ?_
  refine pm_flag ?_
  refine pm_for 8 (fun i σ₂ => ∀ l3 : Option pV, pm_Y b d km_W_noteChange 2 true [some (pm_R 1), some (pm_I (nI p)), some (pm_I (nI i)), l3] [] g σ₂ τ 0 0 0 0 (pm_Wp (fun v σ' => v = none ∧ nc_end σ p σ') τ)) (nc_I σ p) (fun i σ₂ hi hI ih l3 => ?_) (fun σ₂ hI l3 => ?_) 8 0 σ rfl ⟨fun q hq => absurd hq (Nat.not_lt_zero q), rfl, fun _ _ _ => rfl⟩ none
  · refine pm_iload_n d_W_noteChange_2 rfl ?_
    refine pm_bipush' (nI 8) d_W_noteChange_3 (by decide) ?_
    refine pm_icmp_ge_f 99 d_W_noteChange_5 rfl (by rw [nI_leI (by omega) (by omega)]; omega) ?_
    refine pm_iload_n d_W_noteChange_8 rfl ?_
    refine pm_iload_n d_W_noteChange_9 rfl ?_
    refine pm_icmp_eqN 93 d_W_noteChange_10 rfl (by omega) (by omega) (fun c10 => ?_) (fun c10 => ?_)
    · refine pm_iinc' (nI (i + 1)) d_W_noteChange_93 (by decide) rfl (pm_inc _) ?_
      refine pm_goto 2 d_W_noteChange_96 rfl ?_
      -- at 2: lo=[some (pm_R 1), some (pm_I (nI p)), some (pm_I (nI (i + 1))), none] st=[]
      exact ih _ (by subst c10; exact nc_skip hI) _
    · refine pm_aload_n d_W_noteChange_13 rfl ?_
      refine pm_getr d_W_noteChange_14 hf_W_20 (hg.s rfl) (hg.i (by decide)) rfl (hg.r (by decide) rfl) ?_
      refine pm_iload_n d_W_noteChange_17 rfl ?_
      refine pm_aaload p d_W_noteChange_18 (hg.s rfl) (hg.i (by decide)) rfl hp (by decide) (hg.r (by decide) (sr_12 hp)) ?_
      refine pm_iload_n d_W_noteChange_19 rfl ?_
      refine pm_iaload i d_W_noteChange_20 (hg.s (sh_13 _ hp)) (hg.i (by have := (hp : p < 8); omega)) rfl hi (by decide) ?_
      refine pm_iconst' (-1) d_W_noteChange_21 (by decide) ?_
      refine pm_icmp_eq 41 d_W_noteChange_22 rfl (fun c22 => ?_) (fun c22 => ?_)
      · refine pm_iconst' (nI 0) d_W_noteChange_41 (by decide) ?_
        refine pm_istore_n d_W_noteChange_42 (by decide) ?_
        refine pm_aload_n d_W_noteChange_43 rfl ?_
        refine pm_getr d_W_noteChange_44 hf_W_23 (hg.s rfl) (hg.i (by decide)) rfl (hg.r (by decide) rfl) ?_
        refine pm_iload_n d_W_noteChange_47 rfl ?_
        refine pm_aaload p d_W_noteChange_48 (hg.s rfl) (hg.i (by decide)) rfl hp (by decide) (hg.r (by decide) (sr_21 hp)) ?_
        refine pm_iload_n d_W_noteChange_49 rfl ?_
        refine pm_iload_n d_W_noteChange_50 rfl ?_
        refine pm_if_eq_t 65 d_W_noteChange_51 rfl (by decide) ?_
        refine pm_bipush' (nI 9) d_W_noteChange_65 (by decide) ?_
        refine pm_iastore i d_W_noteChange_67 (hg.s (sh_22 _ hp)) (hg.i (by have := (hp : p < 8); omega)) rfl hi (by decide) ?_
        refine pm_aload_n d_W_noteChange_68 rfl ?_
        refine pm_getr d_W_noteChange_69 hf_W_23 (hg.s rfl) (hg.i (by decide)) rfl (hg.r (by decide) rfl) ?_
        refine pm_iload_n d_W_noteChange_72 rfl ?_
        refine pm_aaload i d_W_noteChange_73 (hg.s rfl) (hg.i (by decide)) rfl hi (by decide) (hg.r (by decide) (sr_21 hi)) ?_
        refine pm_iload_n d_W_noteChange_74 rfl ?_
        refine pm_iload_n d_W_noteChange_75 rfl ?_
        refine pm_if_eq_t 90 d_W_noteChange_76 rfl (by decide) ?_
        refine pm_bipush' (nI 9) d_W_noteChange_90 (by decide) ?_
        refine pm_iastore p d_W_noteChange_92 (hg.s (sh_22 _ hi)) (hg.i (by have := (hi : i < 8); omega)) rfl hp (by decide) ?_
        refine pm_iinc' (nI (i + 1)) d_W_noteChange_93 (by decide) rfl (pm_inc _) ?_
        refine pm_goto 2 d_W_noteChange_96 rfl ?_
        -- at 2: lo=[some (pm_R 1), some (pm_I (nI p)), some (pm_I (nI (i + 1))), some (pm_I (nI 0))] st=[]
        exact ih _ (nc_step hI hp hi c10 (by first | simp [nc_v, c22, c34] | simp [nc_v, c22]) (by (try rw [pm_up_ne (by omega)]); first | simp [nc_v, c22, c34] | simp [nc_v, c22])) _
      · refine pm_aload_n d_W_noteChange_25 rfl ?_
        refine pm_getr d_W_noteChange_26 hf_W_20 (hg.s rfl) (hg.i (by decide)) rfl (hg.r (by decide) rfl) ?_
        refine pm_iload_n d_W_noteChange_29 rfl ?_
        refine pm_aaload i d_W_noteChange_30 (hg.s rfl) (hg.i (by decide)) rfl hi (by decide) (hg.r (by decide) (sr_12 hi)) ?_
        refine pm_iload_n d_W_noteChange_31 rfl ?_
        refine pm_iaload p d_W_noteChange_32 (hg.s (sh_13 _ hi)) (hg.i (by have := (hi : i < 8); omega)) rfl hp (by decide) ?_
        refine pm_iconst' (-1) d_W_noteChange_33 (by decide) ?_
        refine pm_icmp_eq 41 d_W_noteChange_34 rfl (fun c34 => ?_) (fun c34 => ?_)
        · refine pm_iconst' (nI 0) d_W_noteChange_41 (by decide) ?_
          refine pm_istore_n d_W_noteChange_42 (by decide) ?_
          refine pm_aload_n d_W_noteChange_43 rfl ?_
          refine pm_getr d_W_noteChange_44 hf_W_23 (hg.s rfl) (hg.i (by decide)) rfl (hg.r (by decide) rfl) ?_
          refine pm_iload_n d_W_noteChange_47 rfl ?_
          refine pm_aaload p d_W_noteChange_48 (hg.s rfl) (hg.i (by decide)) rfl hp (by decide) (hg.r (by decide) (sr_21 hp)) ?_
          refine pm_iload_n d_W_noteChange_49 rfl ?_
          refine pm_iload_n d_W_noteChange_50 rfl ?_
          refine pm_if_eq_t 65 d_W_noteChange_51 rfl (by decide) ?_
          refine pm_bipush' (nI 9) d_W_noteChange_65 (by decide) ?_
          refine pm_iastore i d_W_noteChange_67 (hg.s (sh_22 _ hp)) (hg.i (by have := (hp : p < 8); omega)) rfl hi (by decide) ?_
          refine pm_aload_n d_W_noteChange_68 rfl ?_
          refine pm_getr d_W_noteChange_69 hf_W_23 (hg.s rfl) (hg.i (by decide)) rfl (hg.r (by decide) rfl) ?_
          refine pm_iload_n d_W_noteChange_72 rfl ?_
          refine pm_aaload i d_W_noteChange_73 (hg.s rfl) (hg.i (by decide)) rfl hi (by decide) (hg.r (by decide) (sr_21 hi)) ?_
          refine pm_iload_n d_W_noteChange_74 rfl ?_
          refine pm_iload_n d_W_noteChange_75 rfl ?_
          refine pm_if_eq_t 90 d_W_noteChange_76 rfl (by decide) ?_
          refine pm_bipush' (nI 9) d_W_noteChange_90 (by decide) ?_
          refine pm_iastore p d_W_noteChange_92 (hg.s (sh_22 _ hi)) (hg.i (by have := (hi : i < 8); omega)) rfl hp (by decide) ?_
          refine pm_iinc' (nI (i + 1)) d_W_noteChange_93 (by decide) rfl (pm_inc _) ?_
          refine pm_goto 2 d_W_noteChange_96 rfl ?_
          -- at 2: lo=[some (pm_R 1), some (pm_I (nI p)), some (pm_I (nI (i + 1))), some (pm_I (nI 0))] st=[]
          exact ih _ (nc_step hI hp hi c10 (by first | simp [nc_v, c22, c34] | simp [nc_v, c22]) (by (try rw [pm_up_ne (by omega)]); first | simp [nc_v, c22, c34] | simp [nc_v, c22])) _
        · refine pm_iconst' (nI 1) d_W_noteChange_37 (by decide) ?_
          refine pm_goto 42 d_W_noteChange_38 rfl ?_
          refine pm_istore_n d_W_noteChange_42 (by decide) ?_
          refine pm_aload_n d_W_noteChange_43 rfl ?_
          refine pm_getr d_W_noteChange_44 hf_W_23 (hg.s rfl) (hg.i (by decide)) rfl (hg.r (by decide) rfl) ?_
          refine pm_iload_n d_W_noteChange_47 rfl ?_
          refine pm_aaload p d_W_noteChange_48 (hg.s rfl) (hg.i (by decide)) rfl hp (by decide) (hg.r (by decide) (sr_21 hp)) ?_
          refine pm_iload_n d_W_noteChange_49 rfl ?_
          refine pm_iload_n d_W_noteChange_50 rfl ?_
          refine pm_if_eq_f 65 d_W_noteChange_51 rfl (by decide) ?_
          refine pm_aload_n d_W_noteChange_54 rfl ?_
          refine pm_getr d_W_noteChange_55 hf_W_20 (hg.s rfl) (hg.i (by decide)) rfl (hg.r (by decide) rfl) ?_
          refine pm_iload_n d_W_noteChange_58 rfl ?_
          refine pm_aaload p d_W_noteChange_59 (hg.s rfl) (hg.i (by decide)) rfl hp (by decide) (hg.r (by decide) (sr_12 hp)) ?_
          refine pm_iload_n d_W_noteChange_60 rfl ?_
          refine pm_iaload i d_W_noteChange_61 (hg.s (sh_13 _ hp)) (hg.i (by have := (hp : p < 8); omega)) rfl hi (by decide) ?_
          refine pm_goto 67 d_W_noteChange_62 rfl ?_
          refine pm_iastore i d_W_noteChange_67 (hg.s (sh_22 _ hp)) (hg.i (by have := (hp : p < 8); omega)) rfl hi (by decide) ?_
          refine pm_aload_n d_W_noteChange_68 rfl ?_
          refine pm_getr d_W_noteChange_69 hf_W_23 (hg.s rfl) (hg.i (by decide)) rfl (hg.r (by decide) rfl) ?_
          refine pm_iload_n d_W_noteChange_72 rfl ?_
          refine pm_aaload i d_W_noteChange_73 (hg.s rfl) (hg.i (by decide)) rfl hi (by decide) (hg.r (by decide) (sr_21 hi)) ?_
          refine pm_iload_n d_W_noteChange_74 rfl ?_
          refine pm_iload_n d_W_noteChange_75 rfl ?_
          refine pm_if_eq_f 90 d_W_noteChange_76 rfl (by decide) ?_
          refine pm_aload_n d_W_noteChange_79 rfl ?_
          refine pm_getr d_W_noteChange_80 hf_W_20 (hg.s rfl) (hg.i (by decide)) rfl (hg.r (by decide) rfl) ?_
          refine pm_iload_n d_W_noteChange_83 rfl ?_
          refine pm_aaload i d_W_noteChange_84 (hg.s rfl) (hg.i (by decide)) rfl hi (by decide) (hg.r (by decide) (sr_12 hi)) ?_
          refine pm_iload_n d_W_noteChange_85 rfl ?_
          refine pm_iaload p d_W_noteChange_86 (hg.s (sh_13 _ hi)) (hg.i (by have := (hi : i < 8); omega)) rfl hp (by decide) ?_
          refine pm_goto 92 d_W_noteChange_87 rfl ?_
          refine pm_iastore p d_W_noteChange_92 (hg.s (sh_22 _ hi)) (hg.i (by have := (hi : i < 8); omega)) rfl hp (by decide) ?_
          refine pm_iinc' (nI (i + 1)) d_W_noteChange_93 (by decide) rfl (pm_inc _) ?_
          refine pm_goto 2 d_W_noteChange_96 rfl ?_
          -- at 2: lo=[some (pm_R 1), some (pm_I (nI p)), some (pm_I (nI (i + 1))), some (pm_I (nI 1))] st=[]
          exact ih _ (nc_step hI hp hi c10 (by first | simp [nc_v, c22, c34] | simp [nc_v, c22]) (by (try rw [pm_up_ne (by omega)]); first | simp [nc_v, c22, c34] | simp [nc_v, c22])) _
  · refine pm_iload_n d_W_noteChange_2 rfl ?_
    refine pm_bipush' (nI 8) d_W_noteChange_3 (by decide) ?_
    refine pm_icmp_ge_t 99 d_W_noteChange_5 rfl (by decide) ?_
    refine pm_aload_n d_W_noteChange_99 rfl ?_
    refine pm_dup d_W_noteChange_100 rfl ?_
    refine pm_geti d_W_noteChange_101 hf_W_30 (hg.s rfl) (hg.i (by decide)) rfl ?_
    refine pm_iconst' (nI 1) d_W_noteChange_104 (by decide) ?_
    refine pm_iadd d_W_noteChange_105 ?_
    refine pm_puti d_W_noteChange_106 hp_W_30 (hg.s rfl) (hg.i (by decide)) rfl ?_
    exact pm_return d_W_noteChange_109 rfl (fun _ => rfl) (Nat.le_refl _) (Nat.le_refl _) ⟨⟨rfl, nc_fin hI⟩, rfl⟩
end W3
def sl_R (σ₀ : pI) (p : Nat) (l : List Nat) (Aa Bb : Nat → Nat) (σ : pI) : Prop := (∀ k, k < l.length → σ (4 + p) k = nI (l.getD (Aa k) 0)) ∧ (∀ j, j < l.length → σ (13 + p) (l.getD j 0) = nI (Bb j)) ∧ (∀ q, q ∉ l → σ (13 + p) q = σ₀ (13 + p) q) ∧ ∀ c x, c ≠ 4 + p → c ≠ 13 + p → σ c x = σ₀ c x
theorem sl_step {σ₀ σ : pI} {p i j : Nat} {l : List Nat} {Aa Bb Aa' Bb' : Nat → Nat} (h : sl_R σ₀ p l Aa Bb σ) (hp : p < 8) (hl : l.Nodup) (hj : j < l.length) (hA : ∀ k, Aa' k = if k = i then j else Aa k) (hB : ∀ k, Bb' k = if k = j then i else Bb k) :
    sl_R σ₀ p l Aa' Bb' (pm_up (pm_up σ (4 + p) i (nI (l.getD j 0))) (13 + p) (l.getD j 0) (nI i)) := by
  obtain ⟨h1, h2, h3, h4⟩ := h
  have hm : l.getD j 0 ∈ l := (mem_get l _).mpr ⟨j, hj, rfl⟩
  refine ⟨fun k hk => ?_, fun k hk => ?_, fun q hq => ?_, fun c x hc hc2 => ?_⟩
  · rw [hA k, pm_up_ne (by omega)]
    by_cases e : k = i
    · subst e; rw [pm_up_at, if_pos rfl]
    · rw [pm_up_ne (by omega), if_neg e]; exact h1 k hk
  · rw [hB k]
    by_cases e : k = j
    · subst e; rw [pm_up_at, if_pos rfl]
    · have hne : l.getD k 0 ≠ l.getD j 0 := fun z => e ((nd_iff l).mp hl k j hk hj z)
      rw [pm_up_ne (fun z => hne z.2), pm_up_ne (by omega), if_neg e]; exact h2 k hk
  · rw [pm_up_ne (fun z => hq (by rw [z.2]; exact hm)), pm_up_ne (by omega)]; exact h3 q hq
  · rw [pm_up_ne (by omega), pm_up_ne (by omega)]; exact h4 c x hc hc2
theorem sl_eq {σ₀ σ : pI} {p : Nat} {l : List Nat} {Aa Bb Aa' Bb' : Nat → Nat} (h : sl_R σ₀ p l Aa Bb σ) (hA : ∀ k, Aa' k = Aa k) (hB : ∀ k, Bb' k = Bb k) : sl_R σ₀ p l Aa' Bb' σ := by
  have e1 : Aa' = Aa := funext hA
  have e2 : Bb' = Bb := funext hB
  rw [e1, e2]
  exact h
section W4
variable {b : pB} {g : pG} {σ : pI} {τ : pJ} {d p q x y i f t : Nat} {l : List Nat}
def sl_end (σ₀ : pI) (p : Nat) (l : List Nat) (f t : Nat) (σ : pI) : Prop := (∀ k, k < l.length → σ (4 + p) k = nI (l.getD (mv_at f t k) 0)) ∧ (∀ k, k < l.length → σ (13 + p) (l.getD (mv_at f t k) 0) = nI k) ∧ (∀ q, q ∉ l → σ (13 + p) q = σ₀ (13 + p) q) ∧ ∀ c x, c ≠ 4 + p → c ≠ 13 + p → σ c x = σ₀ c x
theorem sl_fin {σ₀ σ : pI} {Aa Bb : Nat → Nat} (h : sl_R σ₀ p l Aa Bb σ) (hf : f < l.length) (ht : t < l.length) (hA : ∀ k, Aa k = mv_at f t k) (hB : ∀ k, Bb (mv_at f t k) = k) : sl_end σ₀ p l f t σ := by
  obtain ⟨h1, h2, h3, h4⟩ := h
  refine ⟨fun k hk => ?_, fun k hk => ?_, h3, h4⟩
  · rw [h1 k hk, hA k]
  · rw [h2 _ (mv_at_lt hf ht hk), hB k]
theorem l_W_slide_13 (hg : pm_gok 48 g) (hB : pm_base b) (hp : p < 8) (hn : l.Nodup) (hm : l.length ≤ 7) (hb : ∀ k, l.getD k 0 < 8) (ht : t < l.length) (hft : f ≤ t) {E : pE} {σ₁ : pI} (h0 : sl_R σ p l (fun k => k) (fun k => k) σ₁)
    (K : ∀ σ', sl_R σ p l (fun k => if f ≤ k ∧ k < t then k + 1 else k) (fun k => if f < k ∧ k ≤ t then k - 1 else k) σ' → pm_Y b (d + 1) km_W_slide 43 true [some (pm_R 1), some (pm_I (nI p)), some (pm_I (nI f)), some (pm_I (nI t)), some (pm_I (nI (l.getD f 0))), some (pm_I (nI t))] [] g σ' τ 0 0 0 0 E) : pm_Y b (d + 1) km_W_slide 13 true [some (pm_R 1), some (pm_I (nI p)), some (pm_I (nI f)), some (pm_I (nI t)), some (pm_I (nI (l.getD f 0))), some (pm_I (nI f))] [] g σ₁ τ 0 0 0 0 E := by
  refine pm_for t (fun i σ₂ => pm_Y b (d + 1) km_W_slide 13 true [some (pm_R 1), some (pm_I (nI p)), some (pm_I (nI f)), some (pm_I (nI t)), some (pm_I (nI (l.getD f 0))), some (pm_I (nI i))] [] g σ₂ τ 0 0 0 0 E) (fun i σ₂ => f ≤ i ∧ sl_R σ p l (fun k => if f ≤ k ∧ k < i then k + 1 else k) (fun k => if f < k ∧ k ≤ i then k - 1 else k) σ₂) (fun i σ₂ hi hI ih => ?_) (fun σ₂ hI => ?_) (t - f) f σ₁ (by omega) ⟨Nat.le_refl _, sl_eq h0 (fun k => if_neg (by omega)) (fun k => if_neg (by omega))⟩
  · obtain ⟨hfi, hI⟩ := hI
    have ih : ∀ σ', sl_R σ p l (fun k => if f ≤ k ∧ k < i + 1 then k + 1 else k) (fun k => if f < k ∧ k ≤ i + 1 then k - 1 else k) σ' → _ := fun σ' h => ih σ' ⟨by omega, h⟩
    refine pm_iload d_W_slide_13 rfl ?_
    refine pm_iload_n d_W_slide_15 rfl ?_
    refine pm_icmp_ge_f 43 d_W_slide_16 rfl (by rw [nI_leI (by omega) (by omega)]; omega) ?_
    refine pm_aload_n d_W_slide_19 rfl ?_
    refine pm_iload_n d_W_slide_20 rfl ?_
    refine pm_iload d_W_slide_21 rfl ?_
    refine pm_aload_n d_W_slide_23 rfl ?_
    refine pm_getr d_W_slide_24 hf_W_17 (hg.s rfl) (hg.i (by decide)) rfl (hg.r (by decide) rfl) ?_
    refine pm_iload_n d_W_slide_27 rfl ?_
    refine pm_aaload p d_W_slide_28 (hg.s rfl) (hg.i (by decide)) rfl hp (by decide) (hg.r (by decide) (sr_3 hp)) ?_
    refine pm_iload d_W_slide_29 rfl ?_
    refine pm_iconst' (nI 1) d_W_slide_31 (by decide) ?_
    refine pm_iaddN d_W_slide_32 ?_
    refine pm_iaload' (i + 1) (nI (l.getD (i + 1) 0)) d_W_slide_33 (hg.s (sh_4 _ hp)) (hg.i (by have := (hp : p < 8); omega)) rfl (by omega) (by decide) ((hI.1 (i + 1) (by omega)).trans (congrArg (fun z => nI (l.getD z 0)) (if_neg (by omega)))) ?_
    refine pm_callWv (i := 1) (ci := 1) (rest := []) [pm_I (nI p), pm_I (nI i), pm_I (nI (l.getD (i + 1) 0))] hB d_W_slide_34 hc_W_33 (c_W_set hg hp (by omega) (hb _)) (hg.s rfl) (hg.i (by decide)) rfl rfl rfl rfl (Nat.le_of_ble_eq_true rfl) (Nat.le_of_ble_eq_true rfl) (by omega) (by omega) ?_
    refine pm_iinc' (nI (i + 1)) d_W_slide_37 (by decide) rfl (pm_inc _) ?_
    refine pm_goto 13 d_W_slide_40 rfl ?_
    -- at 13: lo=[some (pm_R 1), some (pm_I (nI p)), some (pm_I (nI f)), some (pm_I (nI t)), some (pm_I (nI (l.getD f 0))), some (pm_I (nI (i + 1)))] st=[]
    exact ih _ (sl_step hI hp hn (show i + 1 < l.length by omega) (fun k => by (try dsimp only); (repeat' split) <;> omega) (fun k => by (try dsimp only); (repeat' split) <;> omega))
  · refine pm_iload d_W_slide_13 rfl ?_
    refine pm_iload_n d_W_slide_15 rfl ?_
    refine pm_icmp_ge_t 43 d_W_slide_16 rfl (by rw [nI_leI (by omega) (by omega)]; omega) ?_
    exact K σ₂ hI.2
theorem l_W_slide_46 (hg : pm_gok 48 g) (hB : pm_base b) (hp : p < 8) (hn : l.Nodup) (hm : l.length ≤ 7) (hb : ∀ k, l.getD k 0 < 8) (hf : f < l.length) {E : pE}
    (K : ∀ σ', sl_R σ p l (fun k => if t < k ∧ k ≤ f then k - 1 else k) (fun k => if t ≤ k ∧ k < f then k + 1 else k) σ' → pm_Y b (d + 1) km_W_slide 76 true [some (pm_R 1), some (pm_I (nI p)), some (pm_I (nI f)), some (pm_I (nI t)), some (pm_I (nI (l.getD f 0))), some (pm_I (nI t))] [] g σ' τ 0 0 0 0 E) : ∀ (m i : Nat) (σ₂ : pI), i = t + m → i ≤ f → sl_R σ p l (fun k => if i < k ∧ k ≤ f then k - 1 else k) (fun k => if i ≤ k ∧ k < f then k + 1 else k) σ₂ → pm_Y b (d + 1) km_W_slide 46 true [some (pm_R 1), some (pm_I (nI p)), some (pm_I (nI f)), some (pm_I (nI t)), some (pm_I (nI (l.getD f 0))), some (pm_I (nI i))] [] g σ₂ τ 0 0 0 0 E
  | 0, i, σ₂, hi, hif, hI => by
    have e : i = t := by omega
    subst e
    refine pm_iload d_W_slide_46 rfl ?_
    refine pm_iload_n d_W_slide_48 rfl ?_
    refine pm_icmp_le_t 76 d_W_slide_49 rfl (by rw [nI_leI (by omega) (by omega)]; omega) ?_
    exact K σ₂ hI
  | m + 1, i, σ₂, hi, hif, hI => by
    have ih := fun σ' h => l_W_slide_46 hg hB hp hn hm hb hf K m (i - 1) σ' (by omega) (by omega) h
    refine pm_iload d_W_slide_46 rfl ?_
    refine pm_iload_n d_W_slide_48 rfl ?_
    refine pm_icmp_le_f 76 d_W_slide_49 rfl (by rw [nI_leI (by omega) (by omega)]; omega) ?_
    refine pm_aload_n d_W_slide_52 rfl ?_
    refine pm_iload_n d_W_slide_53 rfl ?_
    refine pm_iload d_W_slide_54 rfl ?_
    refine pm_aload_n d_W_slide_56 rfl ?_
    refine pm_getr d_W_slide_57 hf_W_17 (hg.s rfl) (hg.i (by decide)) rfl (hg.r (by decide) rfl) ?_
    refine pm_iload_n d_W_slide_60 rfl ?_
    refine pm_aaload p d_W_slide_61 (hg.s rfl) (hg.i (by decide)) rfl hp (by decide) (hg.r (by decide) (sr_3 hp)) ?_
    refine pm_iload d_W_slide_62 rfl ?_
    refine pm_iconst' (nI 1) d_W_slide_64 (by decide) ?_
    refine pm_isubN d_W_slide_65 (by omega) ?_
    refine pm_iaload' (i - 1) (nI (l.getD (i - 1) 0)) d_W_slide_66 (hg.s (sh_4 _ hp)) (hg.i (by have := (hp : p < 8); omega)) rfl (by omega) (by decide) ((hI.1 (i - 1) (by omega)).trans (congrArg (fun z => nI (l.getD z 0)) (if_neg (by omega)))) ?_
    refine pm_callWv (i := 1) (ci := 1) (rest := []) [pm_I (nI p), pm_I (nI i), pm_I (nI (l.getD (i - 1) 0))] hB d_W_slide_67 hc_W_33 (c_W_set hg hp (by omega) (hb _)) (hg.s rfl) (hg.i (by decide)) rfl rfl rfl rfl (Nat.le_of_ble_eq_true rfl) (Nat.le_of_ble_eq_true rfl) (by omega) (by omega) ?_
    refine pm_iinc' (nI (i - 1)) d_W_slide_70 (by decide) rfl (pm_dec (by omega)) ?_
    refine pm_goto 46 d_W_slide_73 rfl ?_
    -- at 46: lo=[some (pm_R 1), some (pm_I (nI p)), some (pm_I (nI f)), some (pm_I (nI t)), some (pm_I (nI (l.getD f 0))), some (pm_I (nI (i - 1)))] st=[]
    exact ih _ (sl_step hI hp hn (show i - 1 < l.length by omega) (fun k => by (try dsimp only); (repeat' split) <;> omega) (fun k => by (try dsimp only); (repeat' split) <;> omega))
theorem l_W_slide_76 (hg : pm_gok 48 g) (hB : pm_base b) (hp : p < 8) (hb : ∀ k, l.getD k 0 < 8) (ht : t < 8) {σ₂ : pI} (hF : sl_end σ p l f t (pm_up (pm_up σ₂ (4 + p) t (nI (l.getD f 0))) (13 + p) (l.getD f 0) (nI t))) : pm_Y b (d + 1) km_W_slide 76 true [some (pm_R 1), some (pm_I (nI p)), some (pm_I (nI f)), some (pm_I (nI t)), some (pm_I (nI (l.getD f 0))), some (pm_I (nI i))] [] g σ₂ τ 0 0 0 0 (pm_Wp (fun v σ' => v = none ∧ sl_end σ p l f t σ') τ) := by
  refine pm_aload_n d_W_slide_76 rfl ?_
  refine pm_iload_n d_W_slide_77 rfl ?_
  refine pm_iload_n d_W_slide_78 rfl ?_
  refine pm_iload d_W_slide_79 rfl ?_
  refine pm_callWv (i := 1) (ci := 1) (rest := []) [pm_I (nI p), pm_I (nI t), pm_I (nI (l.getD f 0))] hB d_W_slide_81 hc_W_33 (c_W_set hg hp (by omega) (hb _)) (hg.s rfl) (hg.i (by decide)) rfl rfl rfl rfl (Nat.le_of_ble_eq_true rfl) (Nat.le_of_ble_eq_true rfl) (by omega) (by omega) ?_
  exact pm_return d_W_slide_84 rfl (fun _ => rfl) (Nat.le_refl _) (Nat.le_refl _) ⟨⟨rfl, hF⟩, rfl⟩
theorem c_W_slide (hg : pm_gok 48 g) (hB : pm_base b) (hp : p < 8) (hn : l.Nodup) (hm : l.length ≤ 7) (hb : ∀ k, l.getD k 0 < 8) (hf : f < l.length) (ht : t < l.length) (ho : ∀ k, k < l.length → σ (4 + p) k = nI (l.getD k 0)) (hq : ∀ k, k < l.length → σ (13 + p) (l.getD k 0) = nI k) : pm_C b (d + 1) km_W_slide [pm_R 1, pm_I (nI p), pm_I (nI f), pm_I (nI t)] g σ τ 0 0 (pm_Wp (fun v σ' => v = none ∧ sl_end σ p l f t σ') τ) := by
  show pm_Y b (d + 1) km_W_slide 0 false [some (pm_R 1), some (pm_I (nI p)), some (pm_I (nI f)), some (pm_I (nI t)), none, none] [] g σ τ 0 0 0 0 _
  refine pm_aload_n d_W_slide_0 rfl ?_
  refine pm_getr d_W_slide_1 hf_W_17 (hg.s rfl) (hg.i (by decide)) rfl (hg.r (by decide) rfl) ?_
  refine pm_iload_n d_W_slide_4 rfl ?_
  refine pm_aaload p d_W_slide_5 (hg.s rfl) (hg.i (by decide)) rfl hp (by decide) (hg.r (by decide) (sr_3 hp)) ?_
  refine pm_iload_n d_W_slide_6 rfl ?_
  refine pm_iaload' f (nI (l.getD f 0)) d_W_slide_7 (hg.s (sh_4 _ hp)) (hg.i (by have := (hp : p < 8); omega)) rfl (by omega) (by decide) (ho f hf) ?_
  refine pm_istore d_W_slide_8 (by decide) ?_
  refine pm_iload_n d_W_slide_10 rfl ?_
  refine pm_istore d_W_slide_11 (by decide) ?_
  -- at 13: lo=[some (pm_R 1), some (pm_I (nI p)), some (pm_I (nI f)), some (pm_I (nI t)), some (pm_I (nI (l.getD f 0))), some (pm_I (nI f))] st=[]
  refine pm_flag ?_
  have h0 : sl_R σ p l (fun k => k) (fun k => k) σ := ⟨ho, hq, fun _ _ => rfl, fun _ _ _ _ => rfl⟩
  by_cases hft : f ≤ t
  · refine l_W_slide_13 hg hB hp hn hm hb ht hft h0 (fun σ₂ hI => ?_)
    refine pm_iload_n d_W_slide_43 rfl ?_
    refine pm_istore d_W_slide_44 (by decide) ?_
    refine pm_iload d_W_slide_46 rfl ?_
    refine pm_iload_n d_W_slide_48 rfl ?_
    refine pm_icmp_le_t 76 d_W_slide_49 rfl (by rw [nI_leI (by omega) (by omega)]; omega) ?_
    refine l_W_slide_76 (i := f) hg hB hp hb (by omega) (sl_fin (sl_step hI hp hn hf (Aa' := fun k => if k = t then f else if f ≤ k ∧ k < t then k + 1 else k) (Bb' := fun k => if k = f then t else if f < k ∧ k ≤ t then k - 1 else k) (fun k => rfl) (fun k => rfl)) hf ht (fun k => ?_) (fun k => ?_))
    · (try dsimp only); unfold mv_at
      (repeat' split) <;> omega
    · (try dsimp only); unfold mv_at
      (repeat' split) <;> omega
  · refine pm_iload d_W_slide_13 rfl ?_
    refine pm_iload_n d_W_slide_15 rfl ?_
    refine pm_icmp_ge_t 43 d_W_slide_16 rfl (by rw [nI_leI (by omega) (by omega)]; omega) ?_
    refine pm_iload_n d_W_slide_43 rfl ?_
    refine pm_istore d_W_slide_44 (by decide) ?_
    refine l_W_slide_46 (σ := σ) hg hB hp hn hm hb hf (fun σ₂ hI => ?_) (f - t) f σ (by omega) (Nat.le_refl _) ?_
    · refine l_W_slide_76 (i := t) hg hB hp hb (by omega) (sl_fin (sl_step hI hp hn hf (Aa' := fun k => if k = t then f else if t < k ∧ k ≤ f then k - 1 else k) (Bb' := fun k => if k = f then t else if t ≤ k ∧ k < f then k + 1 else k) (fun k => rfl) (fun k => rfl)) hf ht (fun k => ?_) (fun k => ?_))
      · (try dsimp only); unfold mv_at
        (repeat' split) <;> omega
      · (try dsimp only); unfold mv_at
        (repeat' split) <;> omega
    · exact sl_eq h0 (fun k => if_neg (by omega)) (fun k => if_neg (by omega))
end W4
end
section
/-! the wishes in the lists' words: append, cut, shift -/
theorem nI_m1 {k : Nat} (h : k < 2 ^ 31) : nI k ≠ -1 := by
  intro e
  have h1 := congrArg Int32.toInt e
  rw [nI_toInt h] at h1
  have h2 : (-1 : Int32).toInt = -1 := by decide
  omega
def pl_ (L : Nat → List Nat) (p q : Nat) : Int32 := if q ∈ L p then nI ((L p).idxOf q) else -1
def ci_L (L : Nat → List Nat) (σ : pI) : Prop := (∀ p, p < 8 → σ 2 p = nI (L p).length) ∧ (∀ p k, p < 8 → k < (L p).length → σ (4 + p) k = nI ((L p).getD k 0)) ∧ ∀ p q, p < 8 → q < 8 → σ (13 + p) q = pl_ L p q
def ci_S (L : Nat → List Nat) (σ : pI) : Prop := ∀ p q, p < 8 → q < 8 → σ (22 + p) q = nI (rh_rk L p q)
def ci_W (n ch : Nat) (L : Nat → List Nat) (σ : pI) : Prop := σ 1 4 = nI n ∧ σ 1 5 = nI ch ∧ ci_L L σ ∧ ci_S L σ
def wf_fr (σ₀ σ : pI) : Prop := ∀ c x, 30 ≤ c → σ c x = σ₀ c x
theorem idx_get {l : List Nat} (h : l.Nodup) {k : Nat} (hk : k < l.length) : l.idxOf (l.getD k 0) = k := by
  have hm : l.getD k 0 ∈ l := (mem_get l _).mpr ⟨k, hk, rfl⟩
  have hl := List.idxOf_lt_length_of_mem hm
  have hg : l.getD (l.idxOf (l.getD k 0)) 0 = l.getD k 0 := by
    rw [List.getD_eq_getElem?_getD, List.getElem?_eq_getElem hl, Option.getD_some]
    exact List.getElem_idxOf hl
  exact (nd_iff l).mp h _ _ hl hk hg
theorem get_idx {l : List Nat} {q : Nat} (h : q ∈ l) : l.idxOf q < l.length ∧ l.getD (l.idxOf q) 0 = q := by
  have hl := List.idxOf_lt_length_of_mem h
  refine ⟨hl, ?_⟩
  rw [List.getD_eq_getElem?_getD, List.getElem?_eq_getElem hl, Option.getD_some]
  exact List.getElem_idxOf hl
theorem wf_b {n : Nat} {L : Nat → List Nat} (hw : rh_wf n L) {p : Nat} (hp : p < n) (k : Nat) : (L p).getD k 0 < 8 := by
  have h8 := hw.1
  by_cases hk : k < (L p).length
  · have := ((hw.2.1 p hp).2 _ ((mem_get _ _).mpr ⟨k, hk, rfl⟩)).1
    omega
  · rw [List.getD_eq_getElem?_getD, List.getElem?_eq_none (by omega)]
    decide
theorem wf_l {n : Nat} {L : Nat → List Nat} (hw : rh_wf n L) {p : Nat} (hp : p < n) : (L p).length ≤ 7 := by
  have := rh_len hw hp
  have := hw.1
  omega
theorem nc_rk {L : Nat → List Nat} {σ : pI} (h : ci_L L σ) {n p q : Nat} (hw : rh_wf n L) (hp : p < 8) (hq : q < 8) (hne : p ≠ q) : nc_v σ p q = nI (rh_rk L p q) := by
  have lb : ∀ a c, a < 8 → c ∈ L a → (L a).idxOf c < 2 ^ 31 := fun a c ha hc => by
    have h1 := (get_idx hc).1
    have h2 : a < n := Nat.lt_of_not_le fun z => by rw [hw.2.2 a z] at hc; cases hc
    have h3 := wf_l hw h2
    omega
  unfold nc_v rh_rk
  rw [h.2.2 p q hp hq, h.2.2 q p hq hp, if_neg hne]
  unfold pl_
  by_cases h1 : q ∈ L p
  · by_cases h2 : p ∈ L q
    · rw [if_pos h1, if_pos h2, if_neg (fun z => Or.elim z (nI_m1 (lb p q hp h1)) (nI_m1 (lb q p hq h2))), if_pos ⟨h1, h2⟩]
    · rw [if_neg h2, if_pos (Or.inr rfl), if_neg (fun z => h2 z.2)]
  · rw [if_neg h1, if_pos (Or.inl rfl), if_neg (fun z => h1 z.1)]
theorem note_W {n ch p : Nat} {L : Nat → List Nat} {σ σ' : pI} (hw : rh_wf n L) (hp : p < 8) (h1 : σ 1 4 = nI n) (h2 : σ 1 5 = nI ch) (hL : ci_L L σ) (hS : ∀ a c, a < 8 → c < 8 → (a = p ↔ c = p) → σ (22 + a) c = nI (rh_rk L a c)) (hn : nc_end σ p σ') : ci_W n (ch + 1) L σ' := by
  obtain ⟨n1, n2, n3, n4⟩ := hn
  have fr : ∀ c x, c < 22 → ¬ (c = 1 ∧ x = 5) → σ' c x = σ c x := fun c x hc hx => n4 c x (by omega) hx
  refine ⟨by rw [fr 1 4 (by omega) (by omega)]; exact h1, by rw [n3, h2, nI_add], ⟨fun a ha => ?_, fun a k ha hk => ?_, fun a c ha hc => ?_⟩, fun a c ha hc => ?_⟩
  · rw [fr 2 a (by omega) (by omega)]; exact hL.1 a ha
  · rw [fr (4 + a) k (by omega) (by omega)]; exact hL.2.1 a k ha hk
  · rw [fr (13 + a) c (by omega) (by omega)]; exact hL.2.2 a c ha hc
  · by_cases e1 : a = p
    · by_cases e2 : c = p
      · subst e1; subst e2
        rw [n2]; exact hS c c ha hc ⟨fun z => z, fun z => z⟩
      · subst e1
        rw [(n1 c hc e2).1]
        exact nc_rk hL hw ha hc (fun z => e2 z.symm)
    · by_cases e2 : c = p
      · subst e2
        rw [(n1 a ha e1).2]
        exact nc_rk hL hw ha hc e1
      · rw [n4 (22 + a) c (by omega) (by omega)]
        exact hS a c ha hc ⟨fun z => absurd z e1, fun z => absurd z e2⟩
theorem rk_off {L L' : Nat → List Nat} {p a c : Nat} (h : ∀ x, x ≠ p → L' x = L x) (hac : a = p ↔ c = p) : rh_rk L' a c = rh_rk L a c := by
  unfold rh_rk
  by_cases e : a = c
  · rw [if_pos e, if_pos e]
  · have h1 : a ≠ p := fun z => e (z.trans (hac.mp z).symm)
    have h2 : c ≠ p := fun z => h1 (hac.mpr z)
    rw [h a h1, h c h2]
theorem pl_off {L L' : Nat → List Nat} {p a c : Nat} (h : ∀ x, x ≠ p → L' x = L x) (ha : a ≠ p) : pl_ L' a c = pl_ L a c := by
  unfold pl_
  rw [h a ha]
theorem wf_up {n : Nat} {L : Nat → List Nat} (hw : rh_wf n L) {p : Nat} (hp : p < n) {l : List Nat} (h1 : l.Nodup) (h2 : ∀ q, q ∈ l → q < n ∧ q ≠ p) : rh_wf n (gw_up L p l) := by
  refine ⟨hw.1, fun a ha => ?_, fun a ha => ?_⟩
  · by_cases e : a = p
    · subst e; rw [gw_up_self]; exact ⟨h1, h2⟩
    · rw [gw_up_ne _ _ e]; exact hw.2.1 a ha
  · rw [gw_up_ne _ _ (by omega)]; exact hw.2.2 a ha
theorem clear_W {n ch : Nat} {σ σ' : pI} (h : cl_end σ n σ') (hc : σ 1 5 = nI ch) : ci_W n (ch + 1) (fun _ => []) σ' ∧ wf_fr σ σ' := by
  obtain ⟨h1, h2, h3, h4, h5⟩ := h
  refine ⟨⟨h1, by rw [h2, hc, nI_add], ⟨fun p hp => h3 p hp, fun p k _ hk => absurd hk (Nat.not_lt_zero k), fun p q hp hq => by rw [(h4 p q hp hq).1]; unfold pl_; rw [if_neg List.not_mem_nil]⟩, fun p q hp hq => ?_⟩, fun c x hc => h5 c x (by omega)⟩
  rw [(h4 p q hp hq).2]
  unfold rh_rk
  by_cases e : p = q
  · rw [if_pos e, if_pos e]
  · rw [if_neg e, if_neg e, if_neg (fun z => List.not_mem_nil z.1)]
theorem ap_wf {n : Nat} {L : Nat → List Nat} (hw : rh_wf n L) {p q : Nat} (hp : p < n) (hq : q < n) (hne : q ≠ p) (hm : q ∉ L p) : rh_wf n (gw_up L p (L p ++ [q])) := by
  have h := hw.2.1 p hp
  refine wf_up hw hp ?_ ?_
  · rw [List.nodup_append]
    refine ⟨h.1, by simp, fun a ha c hc => ?_⟩
    rw [List.mem_singleton] at hc
    subst hc
    exact fun z => hm (z ▸ ha)
  · intro a ha
    rcases List.mem_append.mp ha with ha | ha
    · exact h.2 a ha
    · rw [List.mem_singleton] at ha
      subst ha
      exact ⟨hq, hne⟩
theorem ap_L {n : Nat} {L : Nat → List Nat} {σ : pI} (hw : rh_wf n L) (h : ci_L L σ) {p q : Nat} (hp : p < n) (hq : q < n) (hne : q ≠ p) (hm : q ∉ L p) :
    ci_L (gw_up L p (L p ++ [q])) (pm_up (pm_up (pm_up σ 2 p (nI ((L p).length + 1))) (4 + p) (L p).length (nI q)) (13 + p) q (nI (L p).length)) := by
  have h8 := hw.1
  have hwf := ap_wf hw hp hq hne hm
  refine ⟨fun a ha => ?_, fun a k ha hk => ?_, fun a c ha hc => ?_⟩
  · rw [pm_up_ne (by omega), pm_up_ne (by omega)]
    by_cases e : a = p
    · subst e; rw [pm_up_at, gw_up_self, List.length_append, List.length_singleton]
    · rw [pm_up_ne (by omega), gw_up_ne _ _ e]; exact h.1 a ha
  · rw [pm_up_ne (by omega)]
    by_cases e : a = p
    · subst e
      rw [gw_up_self] at hk ⊢
      rw [rh_getD_app]
      by_cases e2 : k = (L a).length
      · subst e2; rw [pm_up_at, if_pos rfl]
      · rw [List.length_append, List.length_singleton] at hk
        rw [pm_up_ne (by omega), pm_up_ne (by omega), if_neg e2]; exact h.2.1 a k ha (by omega)
    · rw [gw_up_ne _ _ e] at hk ⊢
      rw [pm_up_ne (by omega), pm_up_ne (by omega)]; exact h.2.1 a k ha hk
  · by_cases e : a = p
    · subst e
      have hnd := (hwf.2.1 a hp).1
      rw [gw_up_self] at hnd
      by_cases e2 : c = q
      · subst e2
        rw [pm_up_at]
        unfold pl_
        rw [gw_up_self, if_pos (List.mem_append_right _ (List.mem_singleton.mpr rfl))]
        have := idx_get hnd (k := (L a).length) (by rw [List.length_append, List.length_singleton]; omega)
        rw [rh_getD_app, if_pos rfl] at this
        rw [this]
      · rw [pm_up_ne (by omega), pm_up_ne (by omega), pm_up_ne (by omega), h.2.2 a c ha hc]
        unfold pl_
        rw [gw_up_self]
        by_cases hc2 : c ∈ L a
        · obtain ⟨i1, i2⟩ := get_idx hc2
          rw [if_pos hc2, if_pos (List.mem_append_left _ hc2)]
          have := idx_get hnd (k := (L a).idxOf c) (by rw [List.length_append, List.length_singleton]; omega)
          rw [rh_getD_app, if_neg (by omega), i2] at this
          rw [this]
        · rw [if_neg hc2, if_neg (fun z => by
            rcases List.mem_append.mp z with z | z
            · exact hc2 z
            · exact e2 (List.mem_singleton.mp z))]
    · rw [pm_up_ne (by omega), pm_up_ne (by omega), pm_up_ne (by omega), h.2.2 a c ha hc, pl_off (L := L) (p := p) (fun x hx => gw_up_ne _ _ hx) e]
theorem sl_L {n : Nat} {L : Nat → List Nat} {σ σ' : pI} (hw : rh_wf n L) (h : ci_L L σ) {p f t : Nat} (hp : p < n) (hf : f < (L p).length) (ht : t < (L p).length) (hs : sl_end σ p (L p) f t σ') : ci_L (gw_up L p (mv_list (L p) f t)) σ' := by
  have h8 := hw.1
  have hnd := (hw.2.1 p hp).1
  obtain ⟨s1, s2, s3, s4⟩ := hs
  refine ⟨fun a ha => ?_, fun a k ha hk => ?_, fun a c ha hc => ?_⟩
  · rw [s4 2 a (by omega) (by omega), h.1 a ha]
    by_cases e : a = p
    · subst e; rw [gw_up_self, mv_len]
    · rw [gw_up_ne _ _ e]
  · by_cases e : a = p
    · subst e
      rw [gw_up_self, mv_len] at hk
      rw [gw_up_self, mv_get hk]
      exact s1 k hk
    · rw [gw_up_ne _ _ e] at hk ⊢
      rw [s4 (4 + a) k (by omega) (by omega)]; exact h.2.1 a k ha hk
  · by_cases e : a = p
    · subst e
      unfold pl_
      rw [gw_up_self]
      by_cases hm : c ∈ mv_list (L a) f t
      · rw [if_pos hm]
        obtain ⟨i1, i2⟩ := get_idx hm
        rw [mv_len] at i1
        rw [mv_get i1] at i2
        have := s2 _ i1
        rw [i2] at this
        exact this
      · rw [if_neg hm]
        rw [mv_mem hf ht] at hm
        rw [s3 c hm, h.2.2 a c ha hc]
        unfold pl_
        rw [if_neg hm]
    · rw [s4 (13 + a) c (by omega) (by omega), h.2.2 a c ha hc, pl_off (L := L) (p := p) (fun x hx => gw_up_ne _ _ hx) e]
theorem mv_wf {n : Nat} {L : Nat → List Nat} (hw : rh_wf n L) {p f t : Nat} (hp : p < n) (hf : f < (L p).length) (ht : t < (L p).length) : rh_wf n (gw_up L p (mv_list (L p) f t)) :=
  wf_up hw hp (mv_nd (hw.2.1 p hp).1 hf ht) (fun q hq => (hw.2.1 p hp).2 q ((mv_mem hf ht q).mp hq))
theorem rm_wf {n : Nat} {L : Nat → List Nat} (hw : rh_wf n L) {p f : Nat} (hp : p < n) (hf : f < (L p).length) : rh_wf n (gw_up L p (rm_list (L p) f)) :=
  wf_up hw hp (rm_nd (hw.2.1 p hp).1 hf) (fun q hq => (hw.2.1 p hp).2 q ((rm_mem (hw.2.1 p hp).1 hf q).mp hq).1)
theorem rm_L {n : Nat} {L : Nat → List Nat} {σ σ' : pI} (hw : rh_wf n L) (h : ci_L L σ) {p f : Nat} (hp : p < n) (hf : f < (L p).length) (hs : sl_end σ p (L p) f ((L p).length - 1) σ') :
    ci_L (gw_up L p (rm_list (L p) f)) (pm_up (pm_up σ' 2 p (nI ((L p).length - 1))) (13 + p) ((L p).getD f 0) (-1)) := by
  have h8 := hw.1
  have hnd := (hw.2.1 p hp).1
  obtain ⟨s1, s2, s3, s4⟩ := hs
  have hnr := rm_nd hnd hf
  refine ⟨fun a ha => ?_, fun a k ha hk => ?_, fun a c ha hc => ?_⟩
  · rw [pm_up_ne (by omega)]
    by_cases e : a = p
    · subst e; rw [pm_up_at, gw_up_self, rm_len]
    · rw [pm_up_ne (by omega), gw_up_ne _ _ e, s4 2 a (by omega) (by omega)]; exact h.1 a ha
  · rw [pm_up_ne (by omega), pm_up_ne (by omega)]
    by_cases e : a = p
    · subst e
      rw [gw_up_self, rm_len] at hk
      rw [gw_up_self, rm_get hk]
      exact s1 k (by omega)
    · rw [gw_up_ne _ _ e] at hk ⊢
      rw [s4 (4 + a) k (by omega) (by omega)]; exact h.2.1 a k ha hk
  · by_cases e : a = p
    · subst e
      unfold pl_
      rw [gw_up_self]
      by_cases e2 : c = (L a).getD f 0
      · subst e2
        rw [pm_up_at, if_neg (fun z => ((rm_mem hnd hf _).mp z).2 rfl)]
      · rw [pm_up_ne (by omega), pm_up_ne (by omega)]
        by_cases hm : c ∈ rm_list (L a) f
        · rw [if_pos hm]
          obtain ⟨i1, i2⟩ := get_idx hm
          rw [rm_len] at i1
          rw [rm_get i1] at i2
          have := s2 ((rm_list (L a) f).idxOf c) (by omega)
          rw [i2] at this
          exact this
        · rw [if_neg hm]
          have hm2 : c ∉ L a := fun z => hm ((rm_mem hnd hf c).mpr ⟨z, e2⟩)
          rw [s3 c hm2, h.2.2 a c ha hc]
          unfold pl_
          rw [if_neg hm2]
    · rw [pm_up_ne (by omega), pm_up_ne (by omega), s4 (13 + a) c (by omega) (by omega), h.2.2 a c ha hc, pl_off (L := L) (p := p) (fun x hx => gw_up_ne _ _ hx) e]
section W5
variable {b : pB} {g : pG} {σ : pI} {τ : pJ} {d p q n ch f t : Nat} {L : Nat → List Nat}
theorem c_W_append (hg : pm_gok 48 g) (hB : pm_base b) (hw : rh_wf n L) (hp : p < n) (hW : ci_W n ch L σ) (hq : q < n) (hne : q ≠ p) (hm : q ∉ L p) : pm_C b (d + 1) km_W_append [pm_R 1, pm_I (nI p), pm_I (nI q)] g σ τ 0 0 (pm_Wp (fun v σ' => v = none ∧ ci_W n (ch + 1) (gw_up L p (L p ++ [q])) σ' ∧ wf_fr σ σ') τ) := by
  show pm_Y b (d + 1) km_W_append 0 false [some (pm_R 1), some (pm_I (nI p)), some (pm_I (nI q)), none] [] g σ τ 0 0 0 0 _
  have h8 := hw.1
  have hp8 : p < 8 := by omega
  have hl7 := wf_l hw hp
  have hb := wf_b hw hp
  have hnd := (hw.2.1 p hp).1
  obtain ⟨hW1, hW2, hWL, hWS⟩ := hW
  have hq8 : q < 8 := by omega
  refine pm_aload_n d_W_append_0 rfl ?_
  refine pm_getr d_W_append_1 hf_W_9 (hg.s rfl) (hg.i (by decide)) rfl (hg.r (by decide) rfl) ?_
  refine pm_iload_n d_W_append_4 rfl ?_
  refine pm_iaload' p (nI ((L p).length)) d_W_append_5 (hg.s rfl) (hg.i (by decide)) rfl hp8 (by decide) (hWL.1 p hp8) ?_
  refine pm_istore_n d_W_append_6 (by decide) ?_
  refine pm_aload_n d_W_append_7 rfl ?_
  refine pm_getr d_W_append_8 hf_W_9 (hg.s rfl) (hg.i (by decide)) rfl (hg.r (by decide) rfl) ?_
  refine pm_iload_n d_W_append_11 rfl ?_
  refine pm_iload_n d_W_append_12 rfl ?_
  refine pm_iconst' (nI 1) d_W_append_13 (by decide) ?_
  refine pm_iaddN d_W_append_14 ?_
  refine pm_iastore p d_W_append_15 (hg.s rfl) (hg.i (by decide)) rfl hp8 (by decide) ?_
  refine pm_aload_n d_W_append_16 rfl ?_
  refine pm_iload_n d_W_append_17 rfl ?_
  refine pm_iload_n d_W_append_18 rfl ?_
  refine pm_iload_n d_W_append_19 rfl ?_
  refine pm_callWv (i := 1) (ci := 1) (rest := []) [pm_I (nI p), pm_I (nI ((L p).length)), pm_I (nI q)] hB d_W_append_20 hc_W_33 (c_W_set hg hp8 (by omega) hq8) (hg.s rfl) (hg.i (by decide)) rfl rfl rfl rfl (Nat.le_of_ble_eq_true rfl) (Nat.le_of_ble_eq_true rfl) (by omega) (by omega) ?_
  refine pm_aload_n d_W_append_23 rfl ?_
  refine pm_iload_n d_W_append_24 rfl ?_
  refine pm_callWp (i := 1) (ci := 1) (rest := []) [pm_I (nI p)] hB d_W_append_25 hc_W_37 (c_W_noteChange hg hp8) (hg.s rfl) (hg.i (by decide)) rfl rfl rfl rfl (Nat.le_of_ble_eq_true rfl) (Nat.le_of_ble_eq_true rfl) (by omega) (by omega) (fun v25 σ₃ hv25 hq25 => ?_)
  obtain ⟨rfl, hn⟩ := hq25
  show pm_Y b _ km_W_append 28 true [some (pm_R 1), some (pm_I (nI p)), some (pm_I (nI q)), some (pm_I (nI ((L p).length)))] [] g σ₃ τ 0 0 0 0 _
  have H1 : (pm_up (pm_up (pm_up σ 2 p (nI ((L p).length + 1))) (4 + p) (L p).length (nI q)) (13 + p) q (nI (L p).length)) 1 4 = nI n := by rw [pm_up_ne (by omega), pm_up_ne (by omega), pm_up_ne (by omega)]; exact hW1
  have H2 : (pm_up (pm_up (pm_up σ 2 p (nI ((L p).length + 1))) (4 + p) (L p).length (nI q)) (13 + p) q (nI (L p).length)) 1 5 = nI ch := by rw [pm_up_ne (by omega), pm_up_ne (by omega), pm_up_ne (by omega)]; exact hW2
  have H3 : ∀ a c, a < 8 → c < 8 → (a = p ↔ c = p) → (pm_up (pm_up (pm_up σ 2 p (nI ((L p).length + 1))) (4 + p) (L p).length (nI q)) (13 + p) q (nI (L p).length)) (22 + a) c = nI (rh_rk (gw_up L p (L p ++ [q])) a c) := fun a c ha hc hac => by
    rw [pm_up_ne (by omega), pm_up_ne (by omega), pm_up_ne (by omega), rk_off (L := L) (fun x hx => gw_up_ne _ _ hx) hac]; exact hWS a c ha hc
  have H4 : wf_fr σ σ₃ := fun c x hc => by rw [hn.2.2.2 c x (by omega) (by omega), pm_up_ne (by omega), pm_up_ne (by omega), pm_up_ne (by omega)]
  exact pm_return d_W_append_28 rfl (fun _ => rfl) (Nat.le_refl _) (Nat.le_refl _) ⟨⟨rfl, note_W (ap_wf hw hp hq hne hm) hp8 H1 H2 (ap_L hw hWL hp hq hne hm) H3 hn, H4⟩, rfl⟩
theorem c_W_shift (hg : pm_gok 48 g) (hB : pm_base b) (hw : rh_wf n L) (hp : p < n) (hW : ci_W n ch L σ) (hf : f < (L p).length) (ht : t < (L p).length) : pm_C b (d + 2) km_W_shift [pm_R 1, pm_I (nI p), pm_I (nI f), pm_I (nI t)] g σ τ 0 0 (pm_Wp (fun v σ' => v = none ∧ ci_W n (ch + 1) (gw_up L p (mv_list (L p) f t)) σ' ∧ wf_fr σ σ') τ) := by
  show pm_Y b (d + 2) km_W_shift 0 false [some (pm_R 1), some (pm_I (nI p)), some (pm_I (nI f)), some (pm_I (nI t))] [] g σ τ 0 0 0 0 _
  have h8 := hw.1
  have hp8 : p < 8 := by omega
  have hl7 := wf_l hw hp
  have hb := wf_b hw hp
  have hnd := (hw.2.1 p hp).1
  obtain ⟨hW1, hW2, hWL, hWS⟩ := hW
  refine pm_aload_n d_W_shift_0 rfl ?_
  refine pm_iload_n d_W_shift_1 rfl ?_
  refine pm_iload_n d_W_shift_2 rfl ?_
  refine pm_iload_n d_W_shift_3 rfl ?_
  refine pm_callWp (i := 1) (ci := 1) (rest := []) [pm_I (nI p), pm_I (nI f), pm_I (nI t)] hB d_W_shift_4 hc_W_41 (c_W_slide hg hB hp8 hnd hl7 hb hf ht (fun k hk => hWL.2.1 p k hp8 hk) (fun k hk => by rw [hWL.2.2 p _ hp8 (hb k)]; unfold pl_; rw [if_pos ((mem_get _ _).mpr ⟨k, hk, rfl⟩), idx_get hnd hk])) (hg.s rfl) (hg.i (by decide)) rfl rfl rfl rfl (Nat.le_of_ble_eq_true rfl) (Nat.le_of_ble_eq_true rfl) (by omega) (by omega) (fun v4 σ₂ hv4 hq4 => ?_)
  obtain ⟨rfl, hs⟩ := hq4
  show pm_Y b _ km_W_shift 7 true [some (pm_R 1), some (pm_I (nI p)), some (pm_I (nI f)), some (pm_I (nI t))] [] g σ₂ τ 0 0 0 0 _
  refine pm_aload_n d_W_shift_7 rfl ?_
  refine pm_iload_n d_W_shift_8 rfl ?_
  refine pm_callWp (i := 1) (ci := 1) (rest := []) [pm_I (nI p)] hB d_W_shift_9 hc_W_37 (c_W_noteChange hg hp8) (hg.s rfl) (hg.i (by decide)) rfl rfl rfl rfl (Nat.le_of_ble_eq_true rfl) (Nat.le_of_ble_eq_true rfl) (by omega) (by omega) (fun v9 σ₃ hv9 hq9 => ?_)
  obtain ⟨rfl, hn⟩ := hq9
  show pm_Y b _ km_W_shift 12 true [some (pm_R 1), some (pm_I (nI p)), some (pm_I (nI f)), some (pm_I (nI t))] [] g σ₃ τ 0 0 0 0 _
  have H1 : σ₂ 1 4 = nI n := by rw [hs.2.2.2 1 4 (by omega) (by omega)]; exact hW1
  have H2 : σ₂ 1 5 = nI ch := by rw [hs.2.2.2 1 5 (by omega) (by omega)]; exact hW2
  have H3 : ∀ a c, a < 8 → c < 8 → (a = p ↔ c = p) → σ₂ (22 + a) c = nI (rh_rk (gw_up L p (mv_list (L p) f t)) a c) := fun a c ha hc hac => by
    rw [hs.2.2.2 (22 + a) c (by omega) (by omega), rk_off (L := L) (fun x hx => gw_up_ne _ _ hx) hac]; exact hWS a c ha hc
  have H4 : wf_fr σ σ₃ := fun c x hc => by rw [hn.2.2.2 c x (by omega) (by omega), hs.2.2.2 c x (by omega) (by omega)]
  exact pm_return d_W_shift_12 rfl (fun _ => rfl) (Nat.le_refl _) (Nat.le_refl _) ⟨⟨rfl, note_W (mv_wf hw hp hf ht) hp8 H1 H2 (sl_L hw hWL hp hf ht hs) H3 hn, H4⟩, rfl⟩
theorem c_W_cut (hg : pm_gok 48 g) (hB : pm_base b) (hw : rh_wf n L) (hp : p < n) (hW : ci_W n ch L σ) (hf : f < (L p).length) : pm_C b (d + 2) km_W_cut [pm_R 1, pm_I (nI p), pm_I (nI f)] g σ τ 0 0 (pm_Wp (fun v σ' => v = none ∧ ci_W n (ch + 1) (gw_up L p (rm_list (L p) f)) σ' ∧ wf_fr σ σ') τ) := by
  show pm_Y b (d + 2) km_W_cut 0 false [some (pm_R 1), some (pm_I (nI p)), some (pm_I (nI f)), none, none] [] g σ τ 0 0 0 0 _
  have h8 := hw.1
  have hp8 : p < 8 := by omega
  have hl7 := wf_l hw hp
  have hb := wf_b hw hp
  have hnd := (hw.2.1 p hp).1
  obtain ⟨hW1, hW2, hWL, hWS⟩ := hW
  refine pm_aload_n d_W_cut_0 rfl ?_
  refine pm_getr d_W_cut_1 hf_W_9 (hg.s rfl) (hg.i (by decide)) rfl (hg.r (by decide) rfl) ?_
  refine pm_iload_n d_W_cut_4 rfl ?_
  refine pm_iaload' p (nI ((L p).length)) d_W_cut_5 (hg.s rfl) (hg.i (by decide)) rfl hp8 (by decide) (hWL.1 p hp8) ?_
  refine pm_iconst' (nI 1) d_W_cut_6 (by decide) ?_
  refine pm_isubN d_W_cut_7 (by omega) ?_
  refine pm_istore_n d_W_cut_8 (by decide) ?_
  refine pm_aload_n d_W_cut_9 rfl ?_
  refine pm_getr d_W_cut_10 hf_W_17 (hg.s rfl) (hg.i (by decide)) rfl (hg.r (by decide) rfl) ?_
  refine pm_iload_n d_W_cut_13 rfl ?_
  refine pm_aaload p d_W_cut_14 (hg.s rfl) (hg.i (by decide)) rfl hp8 (by decide) (hg.r (by decide) (sr_3 hp8)) ?_
  refine pm_iload_n d_W_cut_15 rfl ?_
  refine pm_iaload' f (nI ((L p).getD f 0)) d_W_cut_16 (hg.s (sh_4 _ hp8)) (hg.i (by have := (hp8 : p < 8); omega)) rfl (by omega) (by decide) (hWL.2.1 p f hp8 hf) ?_
  refine pm_istore d_W_cut_17 (by decide) ?_
  refine pm_aload_n d_W_cut_19 rfl ?_
  refine pm_iload_n d_W_cut_20 rfl ?_
  refine pm_iload_n d_W_cut_21 rfl ?_
  refine pm_iload_n d_W_cut_22 rfl ?_
  refine pm_callWp (i := 1) (ci := 1) (rest := []) [pm_I (nI p), pm_I (nI f), pm_I (nI (((L p).length) - 1))] hB d_W_cut_23 hc_W_41 (c_W_slide hg hB hp8 hnd hl7 hb hf (show (L p).length - 1 < (L p).length by omega) (fun k hk => hWL.2.1 p k hp8 hk) (fun k hk => by rw [hWL.2.2 p _ hp8 (hb k)]; unfold pl_; rw [if_pos ((mem_get _ _).mpr ⟨k, hk, rfl⟩), idx_get hnd hk])) (hg.s rfl) (hg.i (by decide)) rfl rfl rfl rfl (Nat.le_of_ble_eq_true rfl) (Nat.le_of_ble_eq_true rfl) (by omega) (by omega) (fun v23 σ₂ hv23 hq23 => ?_)
  obtain ⟨rfl, hs⟩ := hq23
  show pm_Y b _ km_W_cut 26 true [some (pm_R 1), some (pm_I (nI p)), some (pm_I (nI f)), some (pm_I (nI (((L p).length) - 1))), some (pm_I (nI ((L p).getD f 0)))] [] g σ₂ τ 0 0 0 0 _
  refine pm_aload_n d_W_cut_26 rfl ?_
  refine pm_getr d_W_cut_27 hf_W_9 (hg.s rfl) (hg.i (by decide)) rfl (hg.r (by decide) rfl) ?_
  refine pm_iload_n d_W_cut_30 rfl ?_
  refine pm_iload_n d_W_cut_31 rfl ?_
  refine pm_iastore p d_W_cut_32 (hg.s rfl) (hg.i (by decide)) rfl hp8 (by decide) ?_
  refine pm_aload_n d_W_cut_33 rfl ?_
  refine pm_getr d_W_cut_34 hf_W_20 (hg.s rfl) (hg.i (by decide)) rfl (hg.r (by decide) rfl) ?_
  refine pm_iload_n d_W_cut_37 rfl ?_
  refine pm_aaload p d_W_cut_38 (hg.s rfl) (hg.i (by decide)) rfl hp8 (by decide) (hg.r (by decide) (sr_12 hp8)) ?_
  refine pm_iload d_W_cut_39 rfl ?_
  refine pm_iconst' (-1) d_W_cut_41 (by decide) ?_
  refine pm_iastore ((L p).getD f 0) d_W_cut_42 (hg.s (sh_13 _ hp8)) (hg.i (by have := (hp8 : p < 8); omega)) rfl (hb f) (by decide) ?_
  refine pm_aload_n d_W_cut_43 rfl ?_
  refine pm_iload_n d_W_cut_44 rfl ?_
  refine pm_callWp (i := 1) (ci := 1) (rest := []) [pm_I (nI p)] hB d_W_cut_45 hc_W_37 (c_W_noteChange hg hp8) (hg.s rfl) (hg.i (by decide)) rfl rfl rfl rfl (Nat.le_of_ble_eq_true rfl) (Nat.le_of_ble_eq_true rfl) (by omega) (by omega) (fun v45 σ₃ hv45 hq45 => ?_)
  obtain ⟨rfl, hn⟩ := hq45
  show pm_Y b _ km_W_cut 48 true [some (pm_R 1), some (pm_I (nI p)), some (pm_I (nI f)), some (pm_I (nI (((L p).length) - 1))), some (pm_I (nI ((L p).getD f 0)))] [] g σ₃ τ 0 0 0 0 _
  have H1 : (pm_up (pm_up σ₂ 2 p (nI ((L p).length - 1))) (13 + p) ((L p).getD f 0) (-1)) 1 4 = nI n := by rw [pm_up_ne (by omega), pm_up_ne (by omega), hs.2.2.2 1 4 (by omega) (by omega)]; exact hW1
  have H2 : (pm_up (pm_up σ₂ 2 p (nI ((L p).length - 1))) (13 + p) ((L p).getD f 0) (-1)) 1 5 = nI ch := by rw [pm_up_ne (by omega), pm_up_ne (by omega), hs.2.2.2 1 5 (by omega) (by omega)]; exact hW2
  have H3 : ∀ a c, a < 8 → c < 8 → (a = p ↔ c = p) → (pm_up (pm_up σ₂ 2 p (nI ((L p).length - 1))) (13 + p) ((L p).getD f 0) (-1)) (22 + a) c = nI (rh_rk (gw_up L p (rm_list (L p) f)) a c) := fun a c ha hc hac => by
    rw [pm_up_ne (by omega), pm_up_ne (by omega), hs.2.2.2 (22 + a) c (by omega) (by omega), rk_off (L := L) (fun x hx => gw_up_ne _ _ hx) hac]; exact hWS a c ha hc
  have H4 : wf_fr σ σ₃ := fun c x hc => by rw [hn.2.2.2 c x (by omega) (by omega), pm_up_ne (by omega), pm_up_ne (by omega), hs.2.2.2 c x (by omega) (by omega)]
  exact pm_return d_W_cut_48 rfl (fun _ => rfl) (Nat.le_refl _) (Nat.le_refl _) ⟨⟨rfl, note_W (rm_wf hw hp hf) hp8 H1 H2 (rm_L hw hWL hp hf hs) H3 hn, H4⟩, rfl⟩
end W5
end
section
/-! would somebody block -/
theorem bI_01 (x : Bool) : bI x = 0 ∨ bI x = 1 := by cases x <;> decide
theorem bI_t {x : Bool} (h : ¬ bI x = 0) : x = true := by cases x; exact absurd (by decide) h; rfl
theorem bI_f {x : Bool} (h : bI x = 0) : x = false := by cases x; rfl; exact absurd h (by decide)
def oI (x : Option Nat) : Int32 := match x with
  | none => -1
  | some a => nI a
section W6
variable {b : pB} {d : Nat} {k : pK} {pc : Nat} {f : Bool} {lo : List (Option pV)} {st : List pV} {g : pG} {σ : pI} {τ : pJ} {cu su mc ms : Nat} {E : pE}
theorem pm_if_eqB {x : Bool} {off : Int} (tgt : Nat) (hd : decode k.2.1 pc = .ok (.ifCond .eq off, 3)) (ht : (pc : Int) + off = (tgt : Int)) (kt : x = false → pm_Y b d k tgt f lo st g σ τ cu su mc ms E) (kf : x = true → pm_Y b d k (pc + 3) f lo st g σ τ cu su mc ms E) : pm_Y b d k pc f lo (pm_I (bI x) :: st) g σ τ cu su mc ms E :=
  pm_if_eq tgt hd ht (fun h => kt (bI_f h)) (fun h => kf (bI_t h))
theorem pm_if_neB {x : Bool} {off : Int} (tgt : Nat) (hd : decode k.2.1 pc = .ok (.ifCond .ne off, 3)) (ht : (pc : Int) + off = (tgt : Int)) (kt : x = true → pm_Y b d k tgt f lo st g σ τ cu su mc ms E) (kf : x = false → pm_Y b d k (pc + 3) f lo st g σ τ cu su mc ms E) : pm_Y b d k pc f lo (pm_I (bI x) :: st) g σ τ cu su mc ms E :=
  pm_if_ne tgt hd ht (fun h => kt (bI_t h)) (fun h => kf (bI_f h))
end W6
theorem rk_9 {n : Nat} {L : Nat → List Nat} (hw : rh_wf n L) (p q : Nat) : rh_rk L p q ≤ 9 := by
  unfold rh_rk
  split
  · decide
  · split
    · rename_i h
      have h1 := (get_idx h.1).1
      have h2 : p < n := Nat.lt_of_not_le fun z => by
        have h3 := h.1
        rw [hw.2.2 p z] at h3
        cases h3
      have h3 := wf_l hw h2
      omega
    · exact Nat.le_refl _
/-- two would rather have each other -/
def wb_ (L : Nat → List Nat) (p q x y : Nat) : Bool := decide (rh_rk L p q < rh_rk L p x) && decide (rh_rk L q p < rh_rk L q y)
theorem wb_eq {n : Nat} {L : Nat → List Nat} {σ : pI} (hw : rh_wf n L) (h : ci_S L σ) {p q x y : Nat} (hp : p < 8) (hq : q < 8) (hx : x < 8) (hy : y < 8) : (!decide (σ (22 + p) x ≤ σ (22 + p) q) && !decide (σ (22 + q) y ≤ σ (22 + q) p)) = wb_ L p q x y := by
  have l := fun a c => rk_9 hw a c
  have e1 : (!decide (σ (22 + p) x ≤ σ (22 + p) q)) = decide (rh_rk L p q < rh_rk L p x) := by
    rw [h p x hp hx, h p q hp hq, ← decide_not]
    apply decide_eq_decide.mpr
    rw [nI_leI (by have := l p x; omega) (by have := l p q; omega)]
    omega
  have e2 : (!decide (σ (22 + q) y ≤ σ (22 + q) p)) = decide (rh_rk L q p < rh_rk L q y) := by
    rw [h q y hq hy, h q p hq hp, ← decide_not]
    apply decide_eq_decide.mpr
    rw [nI_leI (by have := l q y; omega) (by have := l q p; omega)]
    omega
  rw [e1, e2]
  rfl
theorem ap_eq {n : Nat} {L : Nat → List Nat} {σ : pI} (hw : rh_wf n L) (h : ci_S L σ) {p q : Nat} (hp : p < 8) (hq : q < 8) : (!decide (nI 8 ≤ σ (22 + p) q)) = decide (rh_rk L p q < 8) := by
  have l := rk_9 hw p q
  rw [h p q hp hq, ← decide_not]
  apply decide_eq_decide.mpr
  rw [nI_leI (by omega) (by omega)]
  omega
theorem pf_eq {n : Nat} {L : Nat → List Nat} {σ : pI} (hw : rh_wf n L) (h : ci_S L σ) {p q x : Nat} (hp : p < 8) (hq : q < 8) (hx : x < 8) : (!decide (σ (22 + p) x ≤ σ (22 + p) q)) = decide (rh_rk L p q < rh_rk L p x) := by
  have l1 := rk_9 hw p q
  have l2 := rk_9 hw p x
  rw [h p q hp hq, h p x hp hx, ← decide_not]
  apply decide_eq_decide.mpr
  rw [nI_leI (by omega) (by omega)]
  omega
section W7
variable {b : pB} {g : pG} {σ : pI} {τ : pJ} {d p q x y h n ch : Nat} {L : Nat → List Nat} {t : Nat → Option Nat}
theorem k_W_wouldBlock (hg : pm_gok 48 g) (hw : rh_wf n L) (hS : ci_S L σ) (hp : p < 8) (hq : q < 8) (hs : pm_sh h = (1, 8)) (hl : h < g.1) (ex : σ h p = nI x) (ey : σ h q = nI y) (hx : x < 8) (hy : y < 8) : pm_C b d km_W_wouldBlock [pm_R 1, pm_I (nI p), pm_I (nI q), pm_R h] g σ τ 0 0 (pm_Rd (bI (wb_ L p q x y)) σ τ) := by
  rw [← wb_eq hw hS hp hq hx hy]
  exact c_W_wouldBlock hg hp hq hs hl ex ey hx hy
theorem k_W_arePossible (hg : pm_gok 48 g) (hw : rh_wf n L) (hS : ci_S L σ) (hp : p < 8) (hq : q < 8) : pm_C b d km_W_arePossible [pm_R 1, pm_I (nI p), pm_I (nI q)] g σ τ 0 0 (pm_Rd (bI (decide (rh_rk L p q < 8))) σ τ) := by
  rw [← ap_eq hw hS hp hq]
  exact c_W_arePossible hg hp hq
theorem k_W_prefers (hg : pm_gok 48 g) (hw : rh_wf n L) (hS : ci_S L σ) (hp : p < 8) (hq : q < 8) (hx : x < 8) : pm_C b d km_W_prefers [pm_R 1, pm_I (nI p), pm_I (nI q), pm_I (nI x)] g σ τ 0 0 (pm_Rd (bI (decide (rh_rk L p q < rh_rk L p x))) σ τ) := by
  rw [← pf_eq hw hS hp hq hx]
  exact c_W_prefers hg hp hq hx
theorem blk_no {rk : Nat → Nat → Nat} (h : ∀ o a c, o < n → t o = some c → t p = some a → (decide (rk p o < rk p a) && decide (rk o p < rk o c)) = false) : cs_blk n rk p t = false := by
  cases e : cs_blk n rk p t with
  | false => rfl
  | true =>
    obtain ⟨o, a, c, h1, h2, h3, h4, h5⟩ := cs_blk_iff.mp e
    have := h o a c h1 h2 h3
    rw [decide_eq_true h4, decide_eq_true h5] at this
    cases this
theorem k_W_wouldBlockWithAny (hg : pm_gok 48 g) (hB : pm_base b) (hw : rh_wf n L) (h4 : σ 1 4 = nI n) (hS : ci_S L σ) (hp : p < 8) (hs : pm_sh h = (1, 8)) (hl : h < g.1) (ht : ∀ a, a < 8 → σ h a = oI (t a)) (hb : ∀ a c, t a = some c → c < 8) (hx : t p = some x) : pm_C b (d + 1) km_W_wouldBlockWithAny [pm_R 1, pm_I (nI p), pm_R h] g σ τ 0 0 (pm_Rd (bI (cs_blk n (rh_rk L) p t)) σ τ) := by
  have h8 := hw.1
  show pm_Y b (d + 1) km_W_wouldBlockWithAny 0 false [some (pm_R 1), some (pm_I (nI p)), some (pm_R h), none] [] g σ τ 0 0 0 0 _
  refine pm_iconst' (nI 0) d_W_wouldBlockWithAny_0 (by decide) ?_
  refine pm_istore_n d_W_wouldBlockWithAny_1 (by decide) ?_
  refine pm_for n (fun i (_ : Unit) => pm_Y b (d + 1) km_W_wouldBlockWithAny 2 false [some (pm_R 1), some (pm_I (nI p)), some (pm_R h), some (pm_I (nI i))] [] g σ τ 0 0 0 0 (pm_Rd (bI (cs_blk n (rh_rk L) p t)) σ τ)) (fun i _ => ∀ o, o < i → ∀ a c, t o = some c → t p = some a → (decide (rh_rk L p o < rh_rk L p a) && decide (rh_rk L o p < rh_rk L o c)) = false) (fun i _ hi hI ih => ?_) (fun _ hI => ?_) n 0 () (by omega) (fun o ho => absurd ho (Nat.not_lt_zero o))
  · refine pm_iload_n d_W_wouldBlockWithAny_2 rfl ?_
    refine pm_aload_n d_W_wouldBlockWithAny_3 rfl ?_
    refine pm_geti' (nI n) d_W_wouldBlockWithAny_4 hf_W_26 (hg.s rfl) (hg.i (by decide)) rfl h4 ?_
    refine pm_icmp_ge_f 35 d_W_wouldBlockWithAny_7 rfl (by rw [nI_leI (by omega) (by omega)]; omega) ?_
    cases e : t i with
    | none =>
      refine pm_aload_n d_W_wouldBlockWithAny_10 rfl ?_
      refine pm_iload_n d_W_wouldBlockWithAny_11 rfl ?_
      refine pm_iaload' i (-1) d_W_wouldBlockWithAny_12 (hg.s hs) hl rfl (by omega) (by decide) (by rw [ht i (by omega), e]; rfl) ?_
      refine pm_iconst' (-1) d_W_wouldBlockWithAny_13 (by decide) ?_
      refine pm_icmp_eq_t 29 d_W_wouldBlockWithAny_14 rfl rfl ?_
      refine pm_iinc' (nI (i + 1)) d_W_wouldBlockWithAny_29 (by decide) rfl (pm_inc _) ?_
      refine pm_goto 2 d_W_wouldBlockWithAny_32 rfl ?_
      -- at 2: lo=[some (pm_R 1), some (pm_I (nI p)), some (pm_R h), some (pm_I (nI (i + 1)))] st=[]
      exact ih () (fun o ho a c e1 e2 => by
        by_cases eo : o = i
        · subst eo; rw [e] at e1; cases e1
        · exact hI o (by omega) a c e1 e2)
    | some y =>
      refine pm_aload_n d_W_wouldBlockWithAny_10 rfl ?_
      refine pm_iload_n d_W_wouldBlockWithAny_11 rfl ?_
      refine pm_iaload' i (nI y) d_W_wouldBlockWithAny_12 (hg.s hs) hl rfl (by omega) (by decide) (by rw [ht i (by omega), e]; rfl) ?_
      refine pm_iconst' (-1) d_W_wouldBlockWithAny_13 (by decide) ?_
      refine pm_icmp_eq_f 29 d_W_wouldBlockWithAny_14 rfl (nI_m1 (by have := hb i y e; omega)) ?_
      refine pm_aload_n d_W_wouldBlockWithAny_17 rfl ?_
      refine pm_iload_n d_W_wouldBlockWithAny_18 rfl ?_
      refine pm_iload_n d_W_wouldBlockWithAny_19 rfl ?_
      refine pm_aload_n d_W_wouldBlockWithAny_20 rfl ?_
      refine pm_callR (i := 1) (ci := 1) (rest := []) [pm_I (nI p), pm_I (nI i), pm_R h] hB d_W_wouldBlockWithAny_21 hc_W_44 (k_W_wouldBlock hg hw hS hp (by omega) hs hl (by rw [ht p hp, hx]; rfl) (by rw [ht i (by omega), e]; rfl) (hb p x hx) (hb i y e)) (hg.s rfl) (hg.i (by decide)) rfl rfl rfl rfl (Nat.le_of_ble_eq_true rfl) (Nat.le_of_ble_eq_true rfl) (by omega) (by omega) ?_
      refine pm_if_eqB 29 d_W_wouldBlockWithAny_24 rfl (fun c24 => ?_) (fun c24 => ?_)
      · refine pm_iinc' (nI (i + 1)) d_W_wouldBlockWithAny_29 (by decide) rfl (pm_inc _) ?_
        refine pm_goto 2 d_W_wouldBlockWithAny_32 rfl ?_
        -- at 2: lo=[some (pm_R 1), some (pm_I (nI p)), some (pm_R h), some (pm_I (nI (i + 1)))] st=[]
        exact ih () (fun o ho a c e1 e2 => by
          by_cases eo : o = i
          · subst eo
            rw [e] at e1
            rw [hx] at e2
            cases e1; cases e2
            exact c24
          · exact hI o (by omega) a c e1 e2)
      · refine pm_iconst' (nI 1) d_W_wouldBlockWithAny_27 (by decide) ?_
        exact pm_zreturn d_W_wouldBlockWithAny_28 rfl (Or.inr rfl) (fun h => h) (Nat.le_refl _) (Nat.le_refl _) ⟨by
          have hc : cs_blk n (rh_rk L) p t = true := cs_blk_iff.mpr ⟨i, x, y, hi, e, hx, by
            have := c24
            unfold wb_ at this
            rw [Bool.and_eq_true, decide_eq_true_eq, decide_eq_true_eq] at this
            exact this⟩
          rw [hc]
          rfl, rfl, rfl⟩
  · refine pm_iload_n d_W_wouldBlockWithAny_2 rfl ?_
    refine pm_aload_n d_W_wouldBlockWithAny_3 rfl ?_
    refine pm_geti' (nI n) d_W_wouldBlockWithAny_4 hf_W_26 (hg.s rfl) (hg.i (by decide)) rfl h4 ?_
    refine pm_icmp_ge_t 35 d_W_wouldBlockWithAny_7 rfl (by rw [nI_leI (by omega) (by omega)]; omega) ?_
    refine pm_iconst' (nI 0) d_W_wouldBlockWithAny_35 (by decide) ?_
    exact pm_zreturn d_W_wouldBlockWithAny_36 rfl (Or.inl rfl) (fun h => h) (Nat.le_refl _) (Nat.le_refl _) ⟨by rw [blk_no (fun o a c h1 h2 h3 => hI o h1 a c h2 h3)]; rfl, rfl, rfl⟩
end W7
end
section
/-! the draft -/
def ci_D (dm : Nat → Nat) (σ : pI) : Prop := ∀ p, p < 8 → σ 31 p = nI (dm p)
def dr_fr (σ₀ σ : pI) : Prop := ∀ c x, c ≠ 31 → σ c x = σ₀ c x
/-- p and whom it has are parted -/
def ms_ (dm : Nat → Nat) (p : Nat) : Nat → Nat := gw_up (gw_up dm (dm p) (dm p)) p p
def jn_ (dm : Nat → Nat) (p q : Nat) : Nat → Nat := gw_up (gw_up (ms_ (ms_ dm p) q) p q) q p
def md_ (n : Nat) (L : Nat → List Nat) (dm : Nat → Nat) : Prop := (∀ p, p < 8 → dm p < 8 ∧ dm (dm p) = p) ∧ ∀ p, p < 8 → dm p ≠ p → p < n ∧ dm p < n ∧ rh_rk L p (dm p) < 8
theorem D_up {dm : Nat → Nat} {σ : pI} {p x : Nat} (h : ci_D dm σ) : ci_D (gw_up dm p x) (pm_up σ 31 p (nI x)) := by
  intro a ha
  by_cases e : a = p
  · subst e; rw [pm_up_at, gw_up_self]
  · rw [pm_up_ne (by omega), gw_up_ne _ _ e]; exact h a ha
theorem ms_lt {dm : Nat → Nat} (h : ∀ p, p < 8 → dm p < 8) {p : Nat} (hp : p < 8) : ∀ a, a < 8 → ms_ dm p a < 8 := by
  intro a ha
  unfold ms_ gw_up
  split
  · exact hp
  · split
    · exact h p hp
    · exact h a ha
/-- pairs below n for which f holds -/
def cb_in (f : Nat → Nat → Bool) (l k : Nat) : Nat := ex_sum (fun j => if f l (l + 1 + j) = true then 1 else 0) k
def cb_ (f : Nat → Nat → Bool) (n i : Nat) : Nat := ex_sum (fun l => cb_in f l (n - (l + 1))) i
theorem cb_in_le (f : Nat → Nat → Bool) (l k : Nat) : cb_in f l k ≤ k := by
  have := ex_sum_bound (f := fun j => if f l (l + 1 + j) = true then 1 else 0) (S := 1) k (fun i _ => by show (if f l (l + 1 + i) = true then 1 else 0) ≤ 1; split <;> omega)
  rw [Nat.mul_one] at this
  exact this
theorem cb_le (f : Nat → Nat → Bool) {n : Nat} (hn : n ≤ 8) (i : Nat) : cb_ f n i ≤ i * 8 := ex_sum_bound i (fun l _ => by have := cb_in_le f l (n - (l + 1)); show cb_in f l (n - (l + 1)) ≤ 8; omega)
section D1
variable {b : pB} {g : pG} {σ : pI} {τ : pJ} {d p q n ch : Nat} {L : Nat → List Nat} {dm : Nat → Nat}
theorem k_W_count (hg : pm_gok 48 g) (h4 : σ 1 4 = nI n) : pm_C b d km_W_count [pm_R 1] g σ τ 0 0 (pm_Rd (nI n) σ τ) := by
  rw [← h4]
  exact c_W_count hg
theorem k_W_changes (hg : pm_gok 48 g) (h5 : σ 1 5 = nI n) : pm_C b d km_W_changes [pm_R 1] g σ τ 0 0 (pm_Rd (nI n) σ τ) := by
  rw [← h5]
  exact c_W_changes hg
theorem k_W_length (hg : pm_gok 48 g) (hL : ci_L L σ) (hp : p < 8) : pm_C b d km_W_length [pm_R 1, pm_I (nI p)] g σ τ 0 0 (pm_Rd (nI (L p).length) σ τ) := by
  rw [← hL.1 p hp]
  exact c_W_length hg hp
theorem k_W_otherAt (hg : pm_gok 48 g) (hL : ci_L L σ) (hp : p < 8) (hk : q < (L p).length) (hq : q < 8) : pm_C b d km_W_otherAt [pm_R 1, pm_I (nI p), pm_I (nI q)] g σ τ 0 0 (pm_Rd (nI ((L p).getD q 0)) σ τ) := by
  rw [← hL.2.1 p q hp hk]
  exact c_W_otherAt hg hp hq
theorem k_W_placeOf (hg : pm_gok 48 g) (hL : ci_L L σ) (hp : p < 8) (hq : q < 8) : pm_C b d km_W_placeOf [pm_R 1, pm_I (nI p), pm_I (nI q)] g σ τ 0 0 (pm_Rd (pl_ L p q) σ τ) := by
  rw [← hL.2.2 p q hp hq]
  exact c_W_placeOf hg hp hq
theorem k_D_mateOf (hg : pm_gok 48 g) (hD : ci_D dm σ) (hp : p < 8) : pm_C b d km_D_mateOf [pm_R 30, pm_I (nI p)] g σ τ 0 0 (pm_Rd (nI (dm p)) σ τ) := by
  show pm_Y b d km_D_mateOf 0 false [some (pm_R 30), some (pm_I (nI p))] [] g σ τ 0 0 0 0 _
  refine pm_aload_n d_D_mateOf_0 rfl ?_
  refine pm_getr d_D_mateOf_1 hf_D_9 (hg.s rfl) (hg.i (by decide)) rfl (hg.r (by decide) rfl) ?_
  refine pm_iload_n d_D_mateOf_4 rfl ?_
  refine pm_iaload' p (nI (dm p)) d_D_mateOf_5 (hg.s rfl) (hg.i (by decide)) rfl hp (by decide) (hD p hp) ?_
  exact pm_ireturn d_D_mateOf_6 rfl (fun h => h) (Nat.le_refl _) (Nat.le_refl _) ⟨rfl, rfl, rfl⟩
theorem k_D_makeAllSingle (hg : pm_gok 48 g) : pm_C b d km_D_makeAllSingle [pm_R 30] g σ τ 0 0 (pm_Wp (fun v σ' => v = none ∧ ci_D (fun p => p) σ' ∧ dr_fr σ σ') τ) := by
  show pm_Y b d km_D_makeAllSingle 0 false [some (pm_R 30), none] [] g σ τ 0 0 0 0 _
  refine pm_iconst' (nI 0) d_D_makeAllSingle_0 (by decide) ?_
  refine pm_istore_n d_D_makeAllSingle_1 (by decide) ?_
  refine pm_flag ?_
  refine pm_for 8 (fun i σ₂ => pm_Y b d km_D_makeAllSingle 2 true [some (pm_R 30), some (pm_I (nI i))] [] g σ₂ τ 0 0 0 0 (pm_Wp (fun v σ' => v = none ∧ ci_D (fun p => p) σ' ∧ dr_fr σ σ') τ)) (fun i σ₂ => (∀ p, p < i → σ₂ 31 p = nI p) ∧ dr_fr σ σ₂) (fun i σ₂ hi hI ih => ?_) (fun σ₂ hI => ?_) 8 0 σ rfl ⟨fun p hp => absurd hp (Nat.not_lt_zero p), fun _ _ _ => rfl⟩
  · refine pm_iload_n d_D_makeAllSingle_2 rfl ?_
    refine pm_bipush' (nI 8) d_D_makeAllSingle_3 (by decide) ?_
    refine pm_icmp_ge_f 21 d_D_makeAllSingle_5 rfl (by rw [nI_leI (by omega) (by omega)]; omega) ?_
    refine pm_aload_n d_D_makeAllSingle_8 rfl ?_
    refine pm_getr d_D_makeAllSingle_9 hf_D_9 (hg.s rfl) (hg.i (by decide)) rfl (hg.r (by decide) rfl) ?_
    refine pm_iload_n d_D_makeAllSingle_12 rfl ?_
    refine pm_iload_n d_D_makeAllSingle_13 rfl ?_
    refine pm_iastore i d_D_makeAllSingle_14 (hg.s rfl) (hg.i (by decide)) rfl hi (by decide) ?_
    refine pm_iinc' (nI (i + 1)) d_D_makeAllSingle_15 (by decide) rfl (pm_inc _) ?_
    refine pm_goto 2 d_D_makeAllSingle_18 rfl ?_
    -- at 2: lo=[some (pm_R 30), some (pm_I (nI (i + 1)))] st=[]
    exact ih _ ⟨fun p hp => by
      by_cases e : p = i
      · subst e; rw [pm_up_at]
      · rw [pm_up_ne (by omega)]; exact hI.1 p (by omega), fun c x hc => by rw [pm_up_ne (by omega)]; exact hI.2 c x hc⟩
  · refine pm_iload_n d_D_makeAllSingle_2 rfl ?_
    refine pm_bipush' (nI 8) d_D_makeAllSingle_3 (by decide) ?_
    refine pm_icmp_ge_t 21 d_D_makeAllSingle_5 rfl (by decide) ?_
    exact pm_return d_D_makeAllSingle_21 rfl (fun _ => rfl) (Nat.le_refl _) (Nat.le_refl _) ⟨⟨rfl, hI⟩, rfl⟩
theorem k_D_makeSingle (hg : pm_gok 48 g) (hD : ci_D dm σ) (hm : ∀ p, p < 8 → dm p < 8) (hp : p < 8) : pm_C b d km_D_makeSingle [pm_R 30, pm_I (nI p)] g σ τ 0 0 (pm_Wp (fun v σ' => v = none ∧ ci_D (ms_ dm p) σ' ∧ dr_fr σ σ') τ) := by
  show pm_Y b d km_D_makeSingle 0 false [some (pm_R 30), some (pm_I (nI p)), none] [] g σ τ 0 0 0 0 _
  refine pm_aload_n d_D_makeSingle_0 rfl ?_
  refine pm_getr d_D_makeSingle_1 hf_D_9 (hg.s rfl) (hg.i (by decide)) rfl (hg.r (by decide) rfl) ?_
  refine pm_iload_n d_D_makeSingle_4 rfl ?_
  refine pm_iaload' p (nI (dm p)) d_D_makeSingle_5 (hg.s rfl) (hg.i (by decide)) rfl hp (by decide) (hD p hp) ?_
  refine pm_istore_n d_D_makeSingle_6 (by decide) ?_
  refine pm_aload_n d_D_makeSingle_7 rfl ?_
  refine pm_getr d_D_makeSingle_8 hf_D_9 (hg.s rfl) (hg.i (by decide)) rfl (hg.r (by decide) rfl) ?_
  refine pm_iload_n d_D_makeSingle_11 rfl ?_
  refine pm_iload_n d_D_makeSingle_12 rfl ?_
  refine pm_iastore (dm p) d_D_makeSingle_13 (hg.s rfl) (hg.i (by decide)) rfl (hm p hp) (by decide) ?_
  refine pm_aload_n d_D_makeSingle_14 rfl ?_
  refine pm_getr d_D_makeSingle_15 hf_D_9 (hg.s rfl) (hg.i (by decide)) rfl (hg.r (by decide) rfl) ?_
  refine pm_iload_n d_D_makeSingle_18 rfl ?_
  refine pm_iload_n d_D_makeSingle_19 rfl ?_
  refine pm_iastore p d_D_makeSingle_20 (hg.s rfl) (hg.i (by decide)) rfl hp (by decide) ?_
  exact pm_return d_D_makeSingle_21 rfl (fun _ => rfl) (Nat.le_refl _) (Nat.le_refl _) ⟨⟨rfl, D_up (D_up hD), fun c x hc => by rw [pm_up_ne (by omega), pm_up_ne (by omega)]⟩, rfl⟩
theorem k_D_join (hg : pm_gok 48 g) (hB : pm_base b) (hD : ci_D dm σ) (hm : ∀ p, p < 8 → dm p < 8) (hp : p < 8) (hq : q < 8) : pm_C b (d + 1) km_D_join [pm_R 30, pm_I (nI p), pm_I (nI q)] g σ τ 0 0 (pm_Wp (fun v σ' => v = none ∧ ci_D (jn_ dm p q) σ' ∧ dr_fr σ σ') τ) := by
  show pm_Y b (d + 1) km_D_join 0 false [some (pm_R 30), some (pm_I (nI p)), some (pm_I (nI q))] [] g σ τ 0 0 0 0 _
  refine pm_aload_n d_D_join_0 rfl ?_
  refine pm_iload_n d_D_join_1 rfl ?_
  refine pm_callWp (i := 30) (ci := 2) (rest := []) [pm_I (nI p)] hB d_D_join_2 hc_D_19 (k_D_makeSingle hg hD hm hp) (hg.s rfl) (hg.i (by decide)) rfl rfl rfl rfl (Nat.le_of_ble_eq_true rfl) (Nat.le_of_ble_eq_true rfl) (by omega) (by omega) (fun v2 σ₁ hv2 hq2 => ?_)
  obtain ⟨rfl, hD1, hf1⟩ := hq2
  show pm_Y b _ km_D_join 5 true [some (pm_R 30), some (pm_I (nI p)), some (pm_I (nI q))] [] g σ₁ τ 0 0 0 0 _
  refine pm_aload_n d_D_join_5 rfl ?_
  refine pm_iload_n d_D_join_6 rfl ?_
  refine pm_callWp (i := 30) (ci := 2) (rest := []) [pm_I (nI q)] hB d_D_join_7 hc_D_19 (k_D_makeSingle hg hD1 (ms_lt hm hp) hq) (hg.s rfl) (hg.i (by decide)) rfl rfl rfl rfl (Nat.le_of_ble_eq_true rfl) (Nat.le_of_ble_eq_true rfl) (by omega) (by omega) (fun v7 σ₂ hv7 hq7 => ?_)
  obtain ⟨rfl, hD2, hf2⟩ := hq7
  show pm_Y b _ km_D_join 10 true [some (pm_R 30), some (pm_I (nI p)), some (pm_I (nI q))] [] g σ₂ τ 0 0 0 0 _
  refine pm_aload_n d_D_join_10 rfl ?_
  refine pm_getr d_D_join_11 hf_D_9 (hg.s rfl) (hg.i (by decide)) rfl (hg.r (by decide) rfl) ?_
  refine pm_iload_n d_D_join_14 rfl ?_
  refine pm_iload_n d_D_join_15 rfl ?_
  refine pm_iastore p d_D_join_16 (hg.s rfl) (hg.i (by decide)) rfl hp (by decide) ?_
  refine pm_aload_n d_D_join_17 rfl ?_
  refine pm_getr d_D_join_18 hf_D_9 (hg.s rfl) (hg.i (by decide)) rfl (hg.r (by decide) rfl) ?_
  refine pm_iload_n d_D_join_21 rfl ?_
  refine pm_iload_n d_D_join_22 rfl ?_
  refine pm_iastore q d_D_join_23 (hg.s rfl) (hg.i (by decide)) rfl hq (by decide) ?_
  exact pm_return d_D_join_24 rfl (fun _ => rfl) (Nat.le_refl _) (Nat.le_refl _) ⟨⟨rfl, D_up (D_up hD2), fun c x hc => by rw [pm_up_ne (by omega), pm_up_ne (by omega), hf2 c x hc, hf1 c x hc]⟩, rfl⟩
theorem k_D_part (hg : pm_gok 48 g) (hB : pm_base b) (hw : rh_wf n L) (hS : ci_S L σ) (hD : ci_D dm σ) (hm : ∀ p, p < 8 → dm p < 8) (hp : p < 8) (hq : q < 8) : pm_C b (d + 1) km_D_partIfNotPossible [pm_R 30, pm_I (nI p), pm_I (nI q)] g σ τ 0 0 (pm_Wp (fun v σ' => v = none ∧ ci_D (if dm p = q ∧ ¬ rh_rk L p q < 8 then ms_ dm p else dm) σ' ∧ dr_fr σ σ') τ) := by
  have hdp := hm p hp
  show pm_Y b (d + 1) km_D_partIfNotPossible 0 false [some (pm_R 30), some (pm_I (nI p)), some (pm_I (nI q))] [] g σ τ 0 0 0 0 _
  refine pm_aload_n d_D_partIfNotPossible_0 rfl ?_
  refine pm_getr d_D_partIfNotPossible_1 hf_D_9 (hg.s rfl) (hg.i (by decide)) rfl (hg.r (by decide) rfl) ?_
  refine pm_iload_n d_D_partIfNotPossible_4 rfl ?_
  refine pm_iaload' p (nI (dm p)) d_D_partIfNotPossible_5 (hg.s rfl) (hg.i (by decide)) rfl hp (by decide) (hD p hp) ?_
  refine pm_iload_n d_D_partIfNotPossible_6 rfl ?_
  refine pm_icmp_neN 27 d_D_partIfNotPossible_7 rfl (by omega) (by omega) (fun c7 => ?_) (fun c7 => ?_)
  · exact pm_return d_D_partIfNotPossible_27 rfl (fun _ => rfl) (Nat.le_refl _) (Nat.le_refl _) ⟨⟨rfl, by rw [if_neg (fun z => c7 z.1)]; exact hD, fun _ _ _ => rfl⟩, rfl⟩
  · refine pm_aload_n d_D_partIfNotPossible_10 rfl ?_
    refine pm_getr d_D_partIfNotPossible_11 hf_D_15 (hg.s rfl) (hg.i (by decide)) rfl (hg.r (by decide) rfl) ?_
    refine pm_iload_n d_D_partIfNotPossible_14 rfl ?_
    refine pm_iload_n d_D_partIfNotPossible_15 rfl ?_
    refine pm_callR (i := 1) (ci := 1) (rest := []) [pm_I (nI p), pm_I (nI q)] hB d_D_partIfNotPossible_16 hc_D_23 (k_W_arePossible hg hw hS hp hq) (hg.s rfl) (hg.i (by decide)) rfl rfl rfl rfl (Nat.le_of_ble_eq_true rfl) (Nat.le_of_ble_eq_true rfl) (by omega) (by omega) ?_
    refine pm_if_neB 27 d_D_partIfNotPossible_19 rfl (fun c19 => ?_) (fun c19 => ?_)
    · exact pm_return d_D_partIfNotPossible_27 rfl (fun _ => rfl) (Nat.le_refl _) (Nat.le_refl _) ⟨⟨rfl, by rw [if_neg (fun z => z.2 (of_decide_eq_true c19))]; exact hD, fun _ _ _ => rfl⟩, rfl⟩
    · refine pm_aload_n d_D_partIfNotPossible_22 rfl ?_
      refine pm_iload_n d_D_partIfNotPossible_23 rfl ?_
      refine pm_callWp (i := 30) (ci := 2) (rest := []) [pm_I (nI p)] hB d_D_partIfNotPossible_24 hc_D_19 (k_D_makeSingle hg hD hm hp) (hg.s rfl) (hg.i (by decide)) rfl rfl rfl rfl (Nat.le_of_ble_eq_true rfl) (Nat.le_of_ble_eq_true rfl) (by omega) (by omega) (fun v24 σ₁ hv24 hq24 => ?_)
      obtain ⟨rfl, hD1, hf1⟩ := hq24
      show pm_Y b _ km_D_partIfNotPossible 27 true [some (pm_R 30), some (pm_I (nI p)), some (pm_I (nI q))] [] g σ₁ τ 0 0 0 0 _
      exact pm_return d_D_partIfNotPossible_27 rfl (fun _ => rfl) (Nat.le_refl _) (Nat.le_refl _) ⟨⟨rfl, by rw [if_pos ⟨c7, of_decide_eq_false c19⟩]; exact hD1, hf1⟩, rfl⟩
theorem cb_in_t {f : Nat → Nat → Bool} {l k : Nat} (h : f l (l + 1 + k) = true) : cb_in f l (k + 1) = cb_in f l k + 1 := by
  show ex_sum _ k + (if f l (l + 1 + k) = true then 1 else 0) = _
  rw [if_pos h]
  rfl
theorem cb_in_f {f : Nat → Nat → Bool} {l k : Nat} (h : f l (l + 1 + k) = false) : cb_in f l (k + 1) = cb_in f l k := by
  show ex_sum _ k + (if f l (l + 1 + k) = true then 1 else 0) = _
  rw [if_neg (by rw [h]; decide)]
  rfl
theorem l_D_countBlocking_19 (hg : pm_gok 48 g) (hB : pm_base b) (hw : rh_wf n L) (h4 : σ 1 4 = nI n) (hS : ci_S L σ) (hD : ci_D dm σ) (hm : ∀ p, p < 8 → dm p < 8) {c l : Nat} (hl : l < n) {E : pE} (K : pm_Y b (d + 1) km_D_countBlocking 55 false [some (pm_R 30), some (pm_I (nI (c + cb_in (fun l h => wb_ L l h (dm l) (dm h)) l (n - (l + 1))))), some (pm_I (nI l)), some (pm_I (nI n))] [] g σ τ 0 0 0 0 E) : pm_Y b (d + 1) km_D_countBlocking 19 false [some (pm_R 30), some (pm_I (nI c)), some (pm_I (nI l)), some (pm_I (nI (l + 1)))] [] g σ τ 0 0 0 0 E := by
  have h8 := hw.1
  refine pm_for (n - (l + 1)) (fun k (_ : Unit) => pm_Y b (d + 1) km_D_countBlocking 19 false [some (pm_R 30), some (pm_I (nI (c + cb_in (fun l h => wb_ L l h (dm l) (dm h)) l k))), some (pm_I (nI l)), some (pm_I (nI (l + 1 + k)))] [] g σ τ 0 0 0 0 E) (fun _ _ => True) (fun k _ hk _ ih => ?_) (fun _ _ => ?_) (n - (l + 1)) 0 () (by omega) trivial
  · skip
    refine pm_iload_n d_D_countBlocking_19 rfl ?_
    refine pm_aload_n d_D_countBlocking_20 rfl ?_
    refine pm_getr d_D_countBlocking_21 hf_D_15 (hg.s rfl) (hg.i (by decide)) rfl (hg.r (by decide) rfl) ?_
    refine pm_callR (i := 1) (ci := 1) (rest := [pm_I (nI (l + 1 + k))]) [] hB d_D_countBlocking_24 hc_D_29 (k_W_count hg h4) (hg.s rfl) (hg.i (by decide)) rfl rfl rfl rfl (Nat.le_of_ble_eq_true rfl) (Nat.le_of_ble_eq_true rfl) (by omega) (by omega) ?_
    refine pm_icmp_ge_f 55 d_D_countBlocking_27 rfl (by rw [nI_leI (by omega) (by omega)]; omega) ?_
    refine pm_aload_n d_D_countBlocking_30 rfl ?_
    refine pm_getr d_D_countBlocking_31 hf_D_15 (hg.s rfl) (hg.i (by decide)) rfl (hg.r (by decide) rfl) ?_
    refine pm_iload_n d_D_countBlocking_34 rfl ?_
    refine pm_iload_n d_D_countBlocking_35 rfl ?_
    refine pm_aload_n d_D_countBlocking_36 rfl ?_
    refine pm_getr d_D_countBlocking_37 hf_D_9 (hg.s rfl) (hg.i (by decide)) rfl (hg.r (by decide) rfl) ?_
    refine pm_callR (i := 1) (ci := 1) (rest := []) [pm_I (nI l), pm_I (nI (l + 1 + k)), pm_R 31] hB d_D_countBlocking_40 hc_D_33 (k_W_wouldBlock hg hw hS (by omega) (by omega) rfl (hg.i (by decide)) (hD l (by omega)) (hD (l + 1 + k) (by omega)) (hm l (by omega)) (hm (l + 1 + k) (by omega))) (hg.s rfl) (hg.i (by decide)) rfl rfl rfl rfl (Nat.le_of_ble_eq_true rfl) (Nat.le_of_ble_eq_true rfl) (by omega) (by omega) ?_
    refine pm_if_eqB 49 d_D_countBlocking_43 rfl (fun c43 => ?_) (fun c43 => ?_)
    · refine pm_iinc' (nI ((l + 1 + k) + 1)) d_D_countBlocking_49 (by decide) rfl (pm_inc _) ?_
      refine pm_goto 19 d_D_countBlocking_52 rfl ?_
      -- at 19: lo=[some (pm_R 30), some (pm_I (nI (c + cb_in (fun l h => wb_ L l h (dm l) (dm h)) l k))), some (pm_I (nI l)), some (pm_I (nI ((l + 1 + k) + 1)))] st=[]
      show pm_Y b (d + 1) km_D_countBlocking 19 false [some (pm_R 30), some (pm_I (nI (c + cb_in (fun l h => wb_ L l h (dm l) (dm h)) l k))), some (pm_I (nI l)), some (pm_I (nI ((l + 1 + k) + 1)))] [] g σ τ 0 0 0 0 E
      rw [show l + 1 + k + 1 = l + 1 + (k + 1) by omega, ← cb_in_f (f := (fun l h => wb_ L l h (dm l) (dm h))) c43]
      exact ih () trivial
    · refine pm_iinc' (nI ((c + cb_in (fun l h => wb_ L l h (dm l) (dm h)) l k) + 1)) d_D_countBlocking_46 (by decide) rfl (pm_inc _) ?_
      refine pm_iinc' (nI ((l + 1 + k) + 1)) d_D_countBlocking_49 (by decide) rfl (pm_inc _) ?_
      refine pm_goto 19 d_D_countBlocking_52 rfl ?_
      -- at 19: lo=[some (pm_R 30), some (pm_I (nI ((c + cb_in (fun l h => wb_ L l h (dm l) (dm h)) l k) + 1))), some (pm_I (nI l)), some (pm_I (nI ((l + 1 + k) + 1)))] st=[]
      show pm_Y b (d + 1) km_D_countBlocking 19 false [some (pm_R 30), some (pm_I (nI ((c + cb_in (fun l h => wb_ L l h (dm l) (dm h)) l k) + 1))), some (pm_I (nI l)), some (pm_I (nI ((l + 1 + k) + 1)))] [] g σ τ 0 0 0 0 E
      rw [show l + 1 + k + 1 = l + 1 + (k + 1) by omega, Nat.add_assoc, ← cb_in_t (f := (fun l h => wb_ L l h (dm l) (dm h))) c43]
      exact ih () trivial
  · rw [show l + 1 + (n - (l + 1)) = n by omega]
    refine pm_iload_n d_D_countBlocking_19 rfl ?_
    refine pm_aload_n d_D_countBlocking_20 rfl ?_
    refine pm_getr d_D_countBlocking_21 hf_D_15 (hg.s rfl) (hg.i (by decide)) rfl (hg.r (by decide) rfl) ?_
    refine pm_callR (i := 1) (ci := 1) (rest := [pm_I (nI n)]) [] hB d_D_countBlocking_24 hc_D_29 (k_W_count hg h4) (hg.s rfl) (hg.i (by decide)) rfl rfl rfl rfl (Nat.le_of_ble_eq_true rfl) (Nat.le_of_ble_eq_true rfl) (by omega) (by omega) ?_
    refine pm_icmp_ge_t 55 d_D_countBlocking_27 rfl (by rw [nI_leI (by omega) (by omega)]; omega) ?_
    exact K
theorem k_D_countBlocking (hg : pm_gok 48 g) (hB : pm_base b) (hw : rh_wf n L) (h4 : σ 1 4 = nI n) (hS : ci_S L σ) (hD : ci_D dm σ) (hm : ∀ p, p < 8 → dm p < 8) : pm_C b (d + 1) km_D_countBlocking [pm_R 30] g σ τ 0 0 (pm_Rd (nI (cb_ (fun l h => wb_ L l h (dm l) (dm h)) n n)) σ τ) := by
  have h8 := hw.1
  show pm_Y b (d + 1) km_D_countBlocking 0 false [some (pm_R 30), none, none, none] [] g σ τ 0 0 0 0 _
  refine pm_iconst' (nI 0) d_D_countBlocking_0 (by decide) ?_
  refine pm_istore_n d_D_countBlocking_1 (by decide) ?_
  refine pm_iconst' (nI 0) d_D_countBlocking_2 (by decide) ?_
  refine pm_istore_n d_D_countBlocking_3 (by decide) ?_
  refine pm_for n (fun l (_ : Unit) => ∀ l3 : Option pV, pm_Y b (d + 1) km_D_countBlocking 4 false [some (pm_R 30), some (pm_I (nI (cb_ (fun l h => wb_ L l h (dm l) (dm h)) n l))), some (pm_I (nI l)), l3] [] g σ τ 0 0 0 0 (pm_Rd (nI (cb_ (fun l h => wb_ L l h (dm l) (dm h)) n n)) σ τ)) (fun _ _ => True) (fun l _ hl _ ih l3 => ?_) (fun _ _ l3 => ?_) n 0 () (by omega) trivial none
  · skip
    refine pm_iload_n d_D_countBlocking_4 rfl ?_
    refine pm_aload_n d_D_countBlocking_5 rfl ?_
    refine pm_getr d_D_countBlocking_6 hf_D_15 (hg.s rfl) (hg.i (by decide)) rfl (hg.r (by decide) rfl) ?_
    refine pm_callR (i := 1) (ci := 1) (rest := [pm_I (nI l)]) [] hB d_D_countBlocking_9 hc_D_29 (k_W_count hg h4) (hg.s rfl) (hg.i (by decide)) rfl rfl rfl rfl (Nat.le_of_ble_eq_true rfl) (Nat.le_of_ble_eq_true rfl) (by omega) (by omega) ?_
    refine pm_icmp_ge_f 61 d_D_countBlocking_12 rfl (by rw [nI_leI (by omega) (by omega)]; omega) ?_
    refine pm_iload_n d_D_countBlocking_15 rfl ?_
    refine pm_iconst' (nI 1) d_D_countBlocking_16 (by decide) ?_
    refine pm_iaddN d_D_countBlocking_17 ?_
    refine pm_istore_n d_D_countBlocking_18 (by decide) ?_
    refine l_D_countBlocking_19 hg hB hw h4 hS hD hm hl ?_
    refine pm_iinc' (nI (l + 1)) d_D_countBlocking_55 (by decide) rfl (pm_inc _) ?_
    refine pm_goto 4 d_D_countBlocking_58 rfl ?_
    exact ih () trivial _
  · skip
    refine pm_iload_n d_D_countBlocking_4 rfl ?_
    refine pm_aload_n d_D_countBlocking_5 rfl ?_
    refine pm_getr d_D_countBlocking_6 hf_D_15 (hg.s rfl) (hg.i (by decide)) rfl (hg.r (by decide) rfl) ?_
    refine pm_callR (i := 1) (ci := 1) (rest := [pm_I (nI n)]) [] hB d_D_countBlocking_9 hc_D_29 (k_W_count hg h4) (hg.s rfl) (hg.i (by decide)) rfl rfl rfl rfl (Nat.le_of_ble_eq_true rfl) (Nat.le_of_ble_eq_true rfl) (by omega) (by omega) ?_
    refine pm_icmp_ge_t 61 d_D_countBlocking_12 rfl (by rw [nI_leI (by omega) (by omega)]; omega) ?_
    refine pm_iload_n d_D_countBlocking_61 rfl ?_
    exact pm_ireturn d_D_countBlocking_62 rfl (fun h => h) (Nat.le_refl _) (Nat.le_refl _) ⟨rfl, rfl, rfl⟩
end D1
end
section
/-! the draft: the first pair that would block; who is astray -/
/-- the first pair below n for which f holds, if there is one -/
def fp_ (f : Nat → Nat → Bool) (n : Nat) (r : Option (Nat × Nat)) : Prop := match r with
  | none => ∀ l h, l < h → h < n → f l h = false
  | some (l, h) => l < h ∧ h < n ∧ f l h = true ∧ ∀ l' h', l' < h' → h' < n → (l' < l ∨ (l' = l ∧ h' < h)) → f l' h' = false
theorem fp_one {f : Nat → Nat → Bool} {n : Nat} {r r' : Option (Nat × Nat)} (h : fp_ f n r) (h' : fp_ f n r') : r = r' := by
  cases r with
  | none =>
    cases r' with
    | none => rfl
    | some x =>
      obtain ⟨l, k⟩ := x
      have := h l k h'.1 h'.2.1
      rw [h'.2.2.1] at this
      cases this
  | some x =>
    obtain ⟨l, k⟩ := x
    cases r' with
    | none =>
      have := h' l k h.1 h.2.1
      rw [h.2.2.1] at this
      cases this
    | some y =>
      obtain ⟨l', k'⟩ := y
      have n1 : ¬ (l' < l ∨ (l' = l ∧ k' < k)) := fun z => by
        have := h.2.2.2 l' k' h'.1 h'.2.1 z
        rw [h'.2.2.1] at this
        cases this
      have n2 : ¬ (l < l' ∨ (l = l' ∧ k < k')) := fun z => by
        have := h'.2.2.2 l k h.1 h.2.1 z
        rw [h.2.2.1] at this
        cases this
      have e1 : l = l' := by omega
      have e2 : k = k' := by omega
      rw [e1, e2]
/-- what satisfying it answers, and the draft behind it -/
def sf_v (r : Option (Nat × Nat)) : Int32 := match r with
  | none => -1
  | some (l, h) => nI (l * 8 + h)
def sf_d (dm : Nat → Nat) (r : Option (Nat × Nat)) : Nat → Nat := match r with
  | none => dm
  | some (l, h) => jn_ dm l h
section D2
variable {b : pB} {g : pG} {σ : pI} {τ : pJ} {d p q n ch : Nat} {L : Nat → List Nat} {dm : Nat → Nat}
theorem l_D_jfb_17 (hg : pm_gok 48 g) (hB : pm_base b) (hw : rh_wf n L) (h4 : σ 1 4 = nI n) (hS : ci_S L σ) (hD : ci_D dm σ) (hm : ∀ p, p < 8 → dm p < 8) {l : Nat} (hl : l < n) (hI0 : ∀ l' h', l' < l → l' < h' → h' < n → wb_ L l' h' (dm l') (dm h') = false) (K : (∀ h', l < h' → h' < n → wb_ L l h' (dm l) (dm h') = false) → pm_Y b (d + 2) km_D_joinFirstBlocking 63 false [some (pm_R 30), some (pm_I (nI l)), some (pm_I (nI n))] [] g σ τ 0 0 0 0 (pm_Wp (fun v σ' => ∃ r, fp_ (fun l h => wb_ L l h (dm l) (dm h)) n r ∧ v = some (sf_v r) ∧ ci_D (sf_d dm r) σ' ∧ dr_fr σ σ') τ)) : pm_Y b (d + 2) km_D_joinFirstBlocking 17 false [some (pm_R 30), some (pm_I (nI l)), some (pm_I (nI (l + 1)))] [] g σ τ 0 0 0 0 (pm_Wp (fun v σ' => ∃ r, fp_ (fun l h => wb_ L l h (dm l) (dm h)) n r ∧ v = some (sf_v r) ∧ ci_D (sf_d dm r) σ' ∧ dr_fr σ σ') τ) := by
  have h8 := hw.1
  refine pm_for (n - (l + 1)) (fun k (_ : Unit) => pm_Y b (d + 2) km_D_joinFirstBlocking 17 false [some (pm_R 30), some (pm_I (nI l)), some (pm_I (nI (l + 1 + k)))] [] g σ τ 0 0 0 0 (pm_Wp (fun v σ' => ∃ r, fp_ (fun l h => wb_ L l h (dm l) (dm h)) n r ∧ v = some (sf_v r) ∧ ci_D (sf_d dm r) σ' ∧ dr_fr σ σ') τ)) (fun k _ => ∀ j, j < k → ∀ h', h' = l + 1 + j → wb_ L l h' (dm l) (dm h') = false) (fun k _ hk hI ih => ?_) (fun _ hI => ?_) (n - (l + 1)) 0 () (by omega) (fun j hj => absurd hj (Nat.not_lt_zero j))
  · skip
    refine pm_iload_n d_D_joinFirstBlocking_17 rfl ?_
    refine pm_aload_n d_D_joinFirstBlocking_18 rfl ?_
    refine pm_getr d_D_joinFirstBlocking_19 hf_D_15 (hg.s rfl) (hg.i (by decide)) rfl (hg.r (by decide) rfl) ?_
    refine pm_callR (i := 1) (ci := 1) (rest := [pm_I (nI (l + 1 + k))]) [] hB d_D_joinFirstBlocking_22 hc_D_29 (k_W_count hg h4) (hg.s rfl) (hg.i (by decide)) rfl rfl rfl rfl (Nat.le_of_ble_eq_true rfl) (Nat.le_of_ble_eq_true rfl) (by omega) (by omega) ?_
    refine pm_icmp_ge_f 63 d_D_joinFirstBlocking_25 rfl (by rw [nI_leI (by omega) (by omega)]; omega) ?_
    refine pm_aload_n d_D_joinFirstBlocking_28 rfl ?_
    refine pm_getr d_D_joinFirstBlocking_29 hf_D_15 (hg.s rfl) (hg.i (by decide)) rfl (hg.r (by decide) rfl) ?_
    refine pm_iload_n d_D_joinFirstBlocking_32 rfl ?_
    refine pm_iload_n d_D_joinFirstBlocking_33 rfl ?_
    refine pm_aload_n d_D_joinFirstBlocking_34 rfl ?_
    refine pm_getr d_D_joinFirstBlocking_35 hf_D_9 (hg.s rfl) (hg.i (by decide)) rfl (hg.r (by decide) rfl) ?_
    refine pm_callR (i := 1) (ci := 1) (rest := []) [pm_I (nI l), pm_I (nI (l + 1 + k)), pm_R 31] hB d_D_joinFirstBlocking_38 hc_D_33 (k_W_wouldBlock hg hw hS (by omega) (by omega) rfl (hg.i (by decide)) (hD l (by omega)) (hD (l + 1 + k) (by omega)) (hm l (by omega)) (hm (l + 1 + k) (by omega))) (hg.s rfl) (hg.i (by decide)) rfl rfl rfl rfl (Nat.le_of_ble_eq_true rfl) (Nat.le_of_ble_eq_true rfl) (by omega) (by omega) ?_
    refine pm_if_eqB 57 d_D_joinFirstBlocking_41 rfl (fun c41 => ?_) (fun c41 => ?_)
    · refine pm_iinc' (nI ((l + 1 + k) + 1)) d_D_joinFirstBlocking_57 (by decide) rfl (pm_inc _) ?_
      refine pm_goto 17 d_D_joinFirstBlocking_60 rfl ?_
      -- at 17: lo=[some (pm_R 30), some (pm_I (nI l)), some (pm_I (nI ((l + 1 + k) + 1)))] st=[]
      exact ih () (fun j hj h' e => by
        by_cases ej : j = k
        · subst ej; subst e; exact c41
        · exact hI j (by omega) h' e)
    · refine pm_aload_n d_D_joinFirstBlocking_44 rfl ?_
      refine pm_iload_n d_D_joinFirstBlocking_45 rfl ?_
      refine pm_iload_n d_D_joinFirstBlocking_46 rfl ?_
      refine pm_callWp (i := 30) (ci := 2) (rest := []) [pm_I (nI l), pm_I (nI (l + 1 + k))] hB d_D_joinFirstBlocking_47 hc_D_37 (k_D_join hg hB hD hm (by omega) (by omega)) (hg.s rfl) (hg.i (by decide)) rfl rfl rfl rfl (Nat.le_of_ble_eq_true rfl) (Nat.le_of_ble_eq_true rfl) (by omega) (by omega) (fun v47 σ₁ hv47 hq47 => ?_)
      obtain ⟨rfl, hD1, hf1⟩ := hq47
      show pm_Y b _ km_D_joinFirstBlocking 50 true [some (pm_R 30), some (pm_I (nI l)), some (pm_I (nI (l + 1 + k)))] [] g σ₁ τ 0 0 0 0 _
      refine pm_iload_n d_D_joinFirstBlocking_50 rfl ?_
      refine pm_bipush' (nI 8) d_D_joinFirstBlocking_51 (by decide) ?_
      refine pm_imulN d_D_joinFirstBlocking_53 ?_
      refine pm_iload_n d_D_joinFirstBlocking_54 rfl ?_
      refine pm_iaddN d_D_joinFirstBlocking_55 ?_
      exact pm_ireturn d_D_joinFirstBlocking_56 rfl (fun _ => rfl) (Nat.le_refl _) (Nat.le_refl _) ⟨⟨some (l, l + 1 + k), ⟨by omega, by omega, c41, fun l' h' a1 a2 a3 => by
        rcases a3 with a3 | ⟨a3, a4⟩
        · exact hI0 l' h' a3 a1 a2
        · subst a3; exact hI (h' - (l' + 1)) (by omega) h' (by omega)⟩, rfl, hD1, hf1⟩, rfl⟩
  · rw [show l + 1 + (n - (l + 1)) = n by omega]
    refine pm_iload_n d_D_joinFirstBlocking_17 rfl ?_
    refine pm_aload_n d_D_joinFirstBlocking_18 rfl ?_
    refine pm_getr d_D_joinFirstBlocking_19 hf_D_15 (hg.s rfl) (hg.i (by decide)) rfl (hg.r (by decide) rfl) ?_
    refine pm_callR (i := 1) (ci := 1) (rest := [pm_I (nI n)]) [] hB d_D_joinFirstBlocking_22 hc_D_29 (k_W_count hg h4) (hg.s rfl) (hg.i (by decide)) rfl rfl rfl rfl (Nat.le_of_ble_eq_true rfl) (Nat.le_of_ble_eq_true rfl) (by omega) (by omega) ?_
    refine pm_icmp_ge_t 63 d_D_joinFirstBlocking_25 rfl (by rw [nI_leI (by omega) (by omega)]; omega) ?_
    exact K (fun h' a1 a2 => hI (h' - (l + 1)) (by omega) h' (by omega))
theorem k_D_joinFirstBlocking (hg : pm_gok 48 g) (hB : pm_base b) (hw : rh_wf n L) (h4 : σ 1 4 = nI n) (hS : ci_S L σ) (hD : ci_D dm σ) (hm : ∀ p, p < 8 → dm p < 8) : pm_C b (d + 2) km_D_joinFirstBlocking [pm_R 30] g σ τ 0 0 (pm_Wp (fun v σ' => ∃ r, fp_ (fun l h => wb_ L l h (dm l) (dm h)) n r ∧ v = some (sf_v r) ∧ ci_D (sf_d dm r) σ' ∧ dr_fr σ σ') τ) := by
  have h8 := hw.1
  show pm_Y b (d + 2) km_D_joinFirstBlocking 0 false [some (pm_R 30), none, none] [] g σ τ 0 0 0 0 _
  refine pm_iconst' (nI 0) d_D_joinFirstBlocking_0 (by decide) ?_
  refine pm_istore_n d_D_joinFirstBlocking_1 (by decide) ?_
  refine pm_for n (fun l (_ : Unit) => ∀ l2 : Option pV, pm_Y b (d + 2) km_D_joinFirstBlocking 2 false [some (pm_R 30), some (pm_I (nI l)), l2] [] g σ τ 0 0 0 0 (pm_Wp (fun v σ' => ∃ r, fp_ (fun l h => wb_ L l h (dm l) (dm h)) n r ∧ v = some (sf_v r) ∧ ci_D (sf_d dm r) σ' ∧ dr_fr σ σ') τ)) (fun l _ => ∀ l' h', l' < l → l' < h' → h' < n → wb_ L l' h' (dm l') (dm h') = false) (fun l _ hl hI ih l2 => ?_) (fun _ hI l2 => ?_) n 0 () (by omega) (fun l' h' hl => absurd hl (Nat.not_lt_zero l')) none
  · skip
    refine pm_iload_n d_D_joinFirstBlocking_2 rfl ?_
    refine pm_aload_n d_D_joinFirstBlocking_3 rfl ?_
    refine pm_getr d_D_joinFirstBlocking_4 hf_D_15 (hg.s rfl) (hg.i (by decide)) rfl (hg.r (by decide) rfl) ?_
    refine pm_callR (i := 1) (ci := 1) (rest := [pm_I (nI l)]) [] hB d_D_joinFirstBlocking_7 hc_D_29 (k_W_count hg h4) (hg.s rfl) (hg.i (by decide)) rfl rfl rfl rfl (Nat.le_of_ble_eq_true rfl) (Nat.le_of_ble_eq_true rfl) (by omega) (by omega) ?_
    refine pm_icmp_ge_f 69 d_D_joinFirstBlocking_10 rfl (by rw [nI_leI (by omega) (by omega)]; omega) ?_
    refine pm_iload_n d_D_joinFirstBlocking_13 rfl ?_
    refine pm_iconst' (nI 1) d_D_joinFirstBlocking_14 (by decide) ?_
    refine pm_iaddN d_D_joinFirstBlocking_15 ?_
    refine pm_istore_n d_D_joinFirstBlocking_16 (by decide) ?_
    refine l_D_jfb_17 hg hB hw h4 hS hD hm hl hI (fun hnew => ?_)
    refine pm_iinc' (nI (l + 1)) d_D_joinFirstBlocking_63 (by decide) rfl (pm_inc _) ?_
    refine pm_goto 2 d_D_joinFirstBlocking_66 rfl ?_
    exact ih () (fun l' h' a1 a2 a3 => by
      by_cases e : l' = l
      · subst e; exact hnew h' a2 a3
      · exact hI l' h' (by omega) a2 a3) _
  · skip
    refine pm_iload_n d_D_joinFirstBlocking_2 rfl ?_
    refine pm_aload_n d_D_joinFirstBlocking_3 rfl ?_
    refine pm_getr d_D_joinFirstBlocking_4 hf_D_15 (hg.s rfl) (hg.i (by decide)) rfl (hg.r (by decide) rfl) ?_
    refine pm_callR (i := 1) (ci := 1) (rest := [pm_I (nI n)]) [] hB d_D_joinFirstBlocking_7 hc_D_29 (k_W_count hg h4) (hg.s rfl) (hg.i (by decide)) rfl rfl rfl rfl (Nat.le_of_ble_eq_true rfl) (Nat.le_of_ble_eq_true rfl) (by omega) (by omega) ?_
    refine pm_icmp_ge_t 69 d_D_joinFirstBlocking_10 rfl (by rw [nI_leI (by omega) (by omega)]; omega) ?_
    refine pm_iconst' (-1) d_D_joinFirstBlocking_69 (by decide) ?_
    exact pm_ireturn d_D_joinFirstBlocking_70 rfl (fun _ => rfl) (Nat.le_refl _) (Nat.le_refl _) ⟨⟨none, fun l h a1 a2 => hI l h (by omega) a1 a2, rfl, hD, fun _ _ _ => rfl⟩, rfl⟩
theorem k_D_isAstray (hg : pm_gok 48 g) (hB : pm_base b) (hw : rh_wf n L) (hS : ci_S L σ) (hD : ci_D dm σ) (hmd : md_ n L dm) (hp : p < 8) : pm_C b (d + 1) km_D_isAstray [pm_R 30, pm_I (nI p)] g σ τ 0 0 (pm_Rd (nI 0) σ τ) := by
  have hdp := (hmd.1 p hp).1
  show pm_Y b (d + 1) km_D_isAstray 0 false [some (pm_R 30), some (pm_I (nI p)), none] [] g σ τ 0 0 0 0 _
  refine pm_aload_n d_D_isAstray_0 rfl ?_
  refine pm_getr d_D_isAstray_1 hf_D_9 (hg.s rfl) (hg.i (by decide)) rfl (hg.r (by decide) rfl) ?_
  refine pm_iload_n d_D_isAstray_4 rfl ?_
  refine pm_iaload' p (nI (dm p)) d_D_isAstray_5 (hg.s rfl) (hg.i (by decide)) rfl hp (by decide) (hD p hp) ?_
  refine pm_istore_n d_D_isAstray_6 (by decide) ?_
  refine pm_aload_n d_D_isAstray_7 rfl ?_
  refine pm_getr d_D_isAstray_8 hf_D_9 (hg.s rfl) (hg.i (by decide)) rfl (hg.r (by decide) rfl) ?_
  refine pm_iload_n d_D_isAstray_11 rfl ?_
  refine pm_iaload' (dm p) (nI p) d_D_isAstray_12 (hg.s rfl) (hg.i (by decide)) rfl (hmd.1 p hp).1 (by decide) (by rw [hD _ (hmd.1 p hp).1, (hmd.1 p hp).2]) ?_
  refine pm_iload_n d_D_isAstray_13 rfl ?_
  refine pm_icmp_ne_f 34 d_D_isAstray_14 rfl rfl ?_
  refine pm_iload_n d_D_isAstray_17 rfl ?_
  refine pm_iload_n d_D_isAstray_18 rfl ?_
  refine pm_icmp_eqN 38 d_D_isAstray_19 rfl (by omega) (by omega) (fun c19 => ?_) (fun c19 => ?_)
  · refine pm_iconst' (nI 0) d_D_isAstray_38 (by decide) ?_
    exact pm_zreturn d_D_isAstray_39 rfl (Or.inl rfl) (fun h => h) (Nat.le_refl _) (Nat.le_refl _) ⟨rfl, rfl, rfl⟩
  · refine pm_aload_n d_D_isAstray_22 rfl ?_
    refine pm_getr d_D_isAstray_23 hf_D_15 (hg.s rfl) (hg.i (by decide)) rfl (hg.r (by decide) rfl) ?_
    refine pm_iload_n d_D_isAstray_26 rfl ?_
    refine pm_iload_n d_D_isAstray_27 rfl ?_
    refine pm_callR (i := 1) (ci := 1) (rest := []) [pm_I (nI p), pm_I (nI (dm p))] hB d_D_isAstray_28 hc_D_23 (k_W_arePossible hg hw hS hp (hmd.1 p hp).1) (hg.s rfl) (hg.i (by decide)) rfl rfl rfl rfl (Nat.le_of_ble_eq_true rfl) (Nat.le_of_ble_eq_true rfl) (by omega) (by omega) ?_
    refine pm_if_neB 38 d_D_isAstray_31 rfl (fun c31 => ?_) (fun c31 => ?_)
    · refine pm_iconst' (nI 0) d_D_isAstray_38 (by decide) ?_
      exact pm_zreturn d_D_isAstray_39 rfl (Or.inl rfl) (fun h => h) (Nat.le_refl _) (Nat.le_refl _) ⟨rfl, rfl, rfl⟩
    · refine pm_iconst' (nI 1) d_D_isAstray_34 (by decide) ?_
      refine pm_goto 39 d_D_isAstray_35 rfl ?_
      exact pm_zreturn d_D_isAstray_39 rfl (Or.inr rfl) (fun h => h) (Nat.le_refl _) (Nat.le_refl _) (absurd (hmd.2 p hp c19).2.2 (of_decide_eq_false c31))
theorem k_D_countAstray (hg : pm_gok 48 g) (hB : pm_base b) (hw : rh_wf n L) (h4 : σ 1 4 = nI n) (hS : ci_S L σ) (hD : ci_D dm σ) (hmd : md_ n L dm) : pm_C b (d + 2) km_D_countAstray [pm_R 30] g σ τ 0 0 (pm_Rd (nI 0) σ τ) := by
  have h8 := hw.1
  show pm_Y b (d + 2) km_D_countAstray 0 false [some (pm_R 30), none, none] [] g σ τ 0 0 0 0 _
  refine pm_iconst' (nI 0) d_D_countAstray_0 (by decide) ?_
  refine pm_istore_n d_D_countAstray_1 (by decide) ?_
  refine pm_iconst' (nI 0) d_D_countAstray_2 (by decide) ?_
  refine pm_istore_n d_D_countAstray_3 (by decide) ?_
  refine pm_for n (fun i (_ : Unit) => pm_Y b (d + 2) km_D_countAstray 4 false [some (pm_R 30), some (pm_I (nI 0)), some (pm_I (nI i))] [] g σ τ 0 0 0 0 (pm_Rd (nI 0) σ τ)) (fun _ _ => True) (fun i _ hi _ ih => ?_) (fun _ _ => ?_) n 0 () (by omega) trivial
  · skip
    refine pm_iload_n d_D_countAstray_4 rfl ?_
    refine pm_aload_n d_D_countAstray_5 rfl ?_
    refine pm_getr d_D_countAstray_6 hf_D_15 (hg.s rfl) (hg.i (by decide)) rfl (hg.r (by decide) rfl) ?_
    refine pm_callR (i := 1) (ci := 1) (rest := [pm_I (nI i)]) [] hB d_D_countAstray_9 hc_D_29 (k_W_count hg h4) (hg.s rfl) (hg.i (by decide)) rfl rfl rfl rfl (Nat.le_of_ble_eq_true rfl) (Nat.le_of_ble_eq_true rfl) (by omega) (by omega) ?_
    refine pm_icmp_ge_f 32 d_D_countAstray_12 rfl (by rw [nI_leI (by omega) (by omega)]; omega) ?_
    refine pm_aload_n d_D_countAstray_15 rfl ?_
    refine pm_iload_n d_D_countAstray_16 rfl ?_
    refine pm_callR (i := 30) (ci := 2) (rest := []) [pm_I (nI i)] hB d_D_countAstray_17 hc_D_41 (k_D_isAstray hg hB hw hS hD hmd (by omega)) (hg.s rfl) (hg.i (by decide)) rfl rfl rfl rfl (Nat.le_of_ble_eq_true rfl) (Nat.le_of_ble_eq_true rfl) (by omega) (by omega) ?_
    refine pm_if_eq_t 26 d_D_countAstray_20 rfl (by decide) ?_
    refine pm_iinc' (nI (i + 1)) d_D_countAstray_26 (by decide) rfl (pm_inc _) ?_
    refine pm_goto 4 d_D_countAstray_29 rfl ?_
    -- at 4: lo=[some (pm_R 30), some (pm_I (nI 0)), some (pm_I (nI (i + 1)))] st=[]
    exact ih () trivial
  · skip
    refine pm_iload_n d_D_countAstray_4 rfl ?_
    refine pm_aload_n d_D_countAstray_5 rfl ?_
    refine pm_getr d_D_countAstray_6 hf_D_15 (hg.s rfl) (hg.i (by decide)) rfl (hg.r (by decide) rfl) ?_
    refine pm_callR (i := 1) (ci := 1) (rest := [pm_I (nI n)]) [] hB d_D_countAstray_9 hc_D_29 (k_W_count hg h4) (hg.s rfl) (hg.i (by decide)) rfl rfl rfl rfl (Nat.le_of_ble_eq_true rfl) (Nat.le_of_ble_eq_true rfl) (by omega) (by omega) ?_
    refine pm_icmp_ge_t 32 d_D_countAstray_12 rfl (by rw [nI_leI (by omega) (by omega)]; omega) ?_
    refine pm_iload_n d_D_countAstray_32 rfl ?_
    exact pm_ireturn d_D_countAstray_33 rfl (fun h => h) (Nat.le_refl _) (Nat.le_refl _) ⟨rfl, rfl, rfl⟩
end D2
end
section
/-! the stable matchings: keep, search -/
def ci_T (c : Nat) (t : Nat → Option Nat) (σ : pI) : Prop := ∀ a, a < 8 → σ c a = oI (t a)
def ci_A (n : Nat) (A : rh_A) (σ : pI) : Prop := σ 32 4 = nI A.1 ∧ (∀ p q, p < 8 → q < 8 → σ (36 + p) q = nI (A.2.1 p q)) ∧ (0 < A.1 → ∀ p, p < n → σ 34 p = nI (A.2.2 p))
def st_fr (σ₀ σ : pI) : Prop := ∀ c x, c ≠ 33 → c ≠ 34 → ¬ (c = 32 ∧ x = 4) → ¬ (36 ≤ c ∧ c < 44) → σ c x = σ₀ c x
def env_ (n : Nat) (L : Nat → List Nat) (σ : pI) : Prop := σ 1 4 = nI n ∧ ci_L L σ ∧ ci_S L σ
theorem env_of {n : Nat} {L : Nat → List Nat} {σ σ' : pI} (h : env_ n L σ) (hf : ∀ c x, c < 30 → σ' c x = σ c x) : env_ n L σ' := by
  obtain ⟨h1, h2, h3⟩ := h
  refine ⟨by rw [hf 1 4 (by omega)]; exact h1, ⟨fun p hp => ?_, fun p k hp hk => ?_, fun p q hp hq => ?_⟩, fun p q hp hq => ?_⟩
  · rw [hf 2 p (by omega)]; exact h2.1 p hp
  · rw [hf (4 + p) k (by omega)]; exact h2.2.1 p k hp hk
  · rw [hf (13 + p) q (by omega)]; exact h2.2.2 p q hp hq
  · rw [hf (22 + p) q (by omega)]; exact h3 p q hp hq
theorem st_fr.lo {σ₀ σ : pI} (h : st_fr σ₀ σ) : ∀ c x, c < 30 → σ c x = σ₀ c x := fun c x hc => h c x (by omega) (by omega) (by omega) (by omega)
theorem st_fr.tr {σ₀ σ₁ σ₂ : pI} (h : st_fr σ₀ σ₁) (h' : st_fr σ₁ σ₂) : st_fr σ₀ σ₂ := fun c x a1 a2 a3 a4 => (h' c x a1 a2 a3 a4).trans (h c x a1 a2 a3 a4)
theorem T_up {c : Nat} {t : Nat → Option Nat} {σ : pI} {a x : Nat} (h : ci_T c t σ) : ci_T c (cs_up t a (some x)) (pm_up σ c a (nI x)) := by
  intro q hq
  by_cases e : q = a
  · subst e; rw [pm_up_at]; unfold cs_up; rw [if_pos rfl]; rfl
  · rw [pm_up_ne (by omega)]; unfold cs_up; rw [if_neg e]; exact h q hq
theorem T_dn {c : Nat} {t : Nat → Option Nat} {σ : pI} {a : Nat} (h : ci_T c t σ) : ci_T c (cs_up t a none) (pm_up σ c a (-1)) := by
  intro q hq
  by_cases e : q = a
  · subst e; rw [pm_up_at]; unfold cs_up; rw [if_pos rfl]; rfl
  · rw [pm_up_ne (by omega)]; unfold cs_up; rw [if_neg e]; exact h q hq
theorem T_of {c : Nat} {t : Nat → Option Nat} {σ σ' : pI} (h : ci_T c t σ) (hf : ∀ x, σ' c x = σ c x) : ci_T c t σ' := fun a ha => (hf a).trans (h a ha)
theorem A_of {n : Nat} {A : rh_A} {σ σ' : pI} (h : ci_A n A σ) (h1 : σ' 32 4 = σ 32 4) (h2 : ∀ c x, 36 ≤ c → c < 44 → σ' c x = σ c x) (h3 : ∀ x, σ' 34 x = σ 34 x) : ci_A n A σ' :=
  ⟨h1.trans h.1, fun p q hp hq => (h2 (36 + p) q (by omega) (by omega)).trans (h.2.1 p q hp hq), fun hA p hp => (h3 p).trans (h.2.2 hA p hp)⟩
/-- keep, as far as i -/
def kp_I (n : Nat) (A : rh_A) (m : Nat → Nat) (σ₀ : pI) (i : Nat) (σ : pI) : Prop := σ 32 4 = nI (A.1 + 1) ∧ (∀ p q, p < 8 → q < 8 → σ (36 + p) q = nI (if p < i ∧ m p = q then A.2.1 p q + 1 else A.2.1 p q)) ∧ (∀ p, p < n → (A.1 = 0 → p < i → σ 34 p = nI (m p)) ∧ (0 < A.1 → σ 34 p = nI (A.2.2 p))) ∧ ∀ c x, c ≠ 34 → ¬ (c = 32 ∧ x = 4) → ¬ (36 ≤ c ∧ c < 44) → σ c x = σ₀ c x
theorem kp_end {n : Nat} {A : rh_A} {m : Nat → Nat} {σ₀ σ : pI} (h : kp_I n A m σ₀ n σ) : ci_A n (rh_acc n A m) σ := by
  obtain ⟨h1, h2, h3, h4⟩ := h
  refine ⟨h1, fun p q hp hq => h2 p q hp hq, fun _ p hp => ?_⟩
  show σ 34 p = nI (if A.1 = 0 ∧ p < n then m p else A.2.2 p)
  by_cases e : A.1 = 0
  · rw [if_pos ⟨e, hp⟩]; exact (h3 p hp).1 e hp
  · rw [if_neg (fun z => e z.1)]; exact (h3 p hp).2 (by omega)
theorem kp_often {n : Nat} {A : rh_A} {m : Nat → Nat} {σ₀ σ : pI} {i : Nat} (h : kp_I n A m σ₀ i σ) (hi : i < 8) (hm : m i < 8) :
    (pm_up σ (36 + i) (m i) (nI (A.2.1 i (m i) + 1))) 32 4 = nI (A.1 + 1) ∧ (∀ p q, p < 8 → q < 8 → (pm_up σ (36 + i) (m i) (nI (A.2.1 i (m i) + 1))) (36 + p) q = nI (if p < i + 1 ∧ m p = q then A.2.1 p q + 1 else A.2.1 p q)) := by
  refine ⟨by rw [pm_up_ne (by omega)]; exact h.1, fun p q hp hq => ?_⟩
  by_cases e : p = i ∧ q = m i
  · obtain ⟨e1, e2⟩ := e
    subst e1; subst e2
    rw [pm_up_at, if_pos ⟨Nat.lt_succ_self _, rfl⟩]
  · rw [pm_up_ne (by omega), h.2.1 p q hp hq]
    by_cases c : p < i ∧ m p = q
    · rw [if_pos c, if_pos ⟨by omega, c.2⟩]
    · rw [if_neg c, if_neg (fun z => by
        by_cases e1 : p = i
        · exact e ⟨e1, by rw [← z.2, e1]⟩
        · exact c ⟨by omega, z.2⟩)]
theorem kp_a {n : Nat} {A : rh_A} {m : Nat → Nat} {σ₀ σ : pI} {i : Nat} (h : kp_I n A m σ₀ i σ) (hi : i < 8) (hm : m i < 8) (hA : A.1 ≠ 0) : kp_I n A m σ₀ (i + 1) (pm_up σ (36 + i) (m i) (nI (A.2.1 i (m i) + 1))) :=
  ⟨(kp_often h hi hm).1, (kp_often h hi hm).2, fun p hp => ⟨fun z => absurd z hA, fun z => by rw [pm_up_ne (by omega)]; exact (h.2.2.1 p hp).2 z⟩, fun c x a1 a2 a3 => by rw [pm_up_ne (by omega)]; exact h.2.2.2 c x a1 a2 a3⟩
theorem kp_b {n : Nat} {A : rh_A} {m : Nat → Nat} {σ₀ σ : pI} {i : Nat} (h : kp_I n A m σ₀ i σ) (hi : i < 8) (hm : m i < 8) (hA : A.1 = 0) : kp_I n A m σ₀ (i + 1) (pm_up (pm_up σ (36 + i) (m i) (nI (A.2.1 i (m i) + 1))) 34 i (nI (m i))) := by
  refine ⟨by rw [pm_up_ne (by omega)]; exact (kp_often h hi hm).1, fun p q hp hq => by rw [pm_up_ne (by omega)]; exact (kp_often h hi hm).2 p q hp hq, fun p hp => ⟨fun z hpi => ?_, fun z => by omega⟩, fun c x a1 a2 a3 => by rw [pm_up_ne (by omega), pm_up_ne (by omega)]; exact h.2.2.2 c x a1 a2 a3⟩
  by_cases e : p = i
  · subst e; rw [pm_up_at]
  · rw [pm_up_ne (by omega), pm_up_ne (by omega)]; exact (h.2.2.1 p hp).1 z (by omega)
section S1
variable {b : pB} {g : pG} {σ : pI} {τ : pJ} {d p q n : Nat} {L : Nat → List Nat} {t : Nat → Option Nat} {A : rh_A} {m : Nat → Nat}
theorem k_S_keep (hg : pm_gok 48 g) (hB : pm_base b) (hn : n ≤ 8) (h4 : σ 1 4 = nI n) (ht : ci_T 33 t σ) (hmt : ∀ p, p < n → t p = some (m p)) (hm : ∀ p, p < n → m p < 8) (hA : ci_A n A σ) (hb : A.1 + 1 ≤ 43046721) : pm_C b (d + 1) km_S_keep [pm_R 32] g σ τ 0 0 (pm_Wp (fun v σ' => v = none ∧ ci_A n (rh_acc n A m) σ' ∧ ∀ c x, c ≠ 34 → ¬ (c = 32 ∧ x = 4) → ¬ (36 ≤ c ∧ c < 44) → σ' c x = σ c x) τ) := by
  show pm_Y b (d + 1) km_S_keep 0 false [some (pm_R 32), none] [] g σ τ 0 0 0 0 _
  refine pm_aload_n d_S_keep_0 rfl ?_
  refine pm_dup d_S_keep_1 rfl ?_
  refine pm_geti' (nI A.1) d_S_keep_2 hf_S_34 (hg.s rfl) (hg.i (by decide)) rfl hA.1 ?_
  refine pm_iconst' (nI 1) d_S_keep_5 (by decide) ?_
  refine pm_iaddN d_S_keep_6 ?_
  refine pm_puti d_S_keep_7 hp_S_34 (hg.s rfl) (hg.i (by decide)) rfl ?_
  refine pm_iconst' (nI 0) d_S_keep_10 (by decide) ?_
  refine pm_istore_n d_S_keep_11 (by decide) ?_
  -- at 12: lo=[some (pm_R 32), some (pm_I (nI 0))] st=[]
  refine pm_for n (fun i σ₂ => pm_Y b (d + 1) km_S_keep 12 true [some (pm_R 32), some (pm_I (nI i))] [] g σ₂ τ 0 0 0 0 (pm_Wp (fun v σ' => v = none ∧ ci_A n (rh_acc n A m) σ' ∧ ∀ c x, c ≠ 34 → ¬ (c = 32 ∧ x = 4) → ¬ (36 ≤ c ∧ c < 44) → σ' c x = σ c x) τ)) (kp_I n A m σ) (fun i σ₂ hi hI ih => ?_) (fun σ₂ hI => ?_) n 0 _ (by omega) ⟨pm_up_at, fun p q hp hq => by rw [pm_up_ne (by omega), if_neg (by omega)]; exact hA.2.1 p q hp hq, fun p hp => ⟨fun _ z => absurd z (Nat.not_lt_zero p), fun z => by rw [pm_up_ne (by omega)]; exact hA.2.2 z p hp⟩, fun c x a1 a2 a3 => pm_up_ne a2⟩
  · have h4' : σ₂ 1 4 = nI n := by rw [hI.2.2.2 1 4 (by omega) (by omega) (by omega)]; exact h4
    refine pm_iload_n d_S_keep_12 rfl ?_
    refine pm_aload_n d_S_keep_13 rfl ?_
    refine pm_getr d_S_keep_14 hf_S_27 (hg.s rfl) (hg.i (by decide)) rfl (hg.r (by decide) rfl) ?_
    refine pm_callR (i := 1) (ci := 1) (rest := [pm_I (nI i)]) [] hB d_S_keep_17 hc_S_55 (k_W_count hg h4') (hg.s rfl) (hg.i (by decide)) rfl rfl rfl rfl (Nat.le_of_ble_eq_true rfl) (Nat.le_of_ble_eq_true rfl) (by omega) (by omega) ?_
    refine pm_icmp_ge_f 66 d_S_keep_20 rfl (by rw [nI_leI (by omega) (by omega)]; omega) ?_
    refine pm_aload_n d_S_keep_23 rfl ?_
    refine pm_getr d_S_keep_24 hf_S_20 (hg.s rfl) (hg.i (by decide)) rfl (hg.r (by decide) rfl) ?_
    refine pm_iload_n d_S_keep_27 rfl ?_
    refine pm_aaload i d_S_keep_28 (hg.s rfl) (hg.i (by decide)) rfl (by omega) (by decide) (hg.r (by decide) (sr_35 (by omega))) ?_
    refine pm_aload_n d_S_keep_29 rfl ?_
    refine pm_getr d_S_keep_30 hf_S_9 (hg.s rfl) (hg.i (by decide)) rfl (hg.r (by decide) rfl) ?_
    refine pm_iload_n d_S_keep_33 rfl ?_
    refine pm_iaload' i (nI (m i)) d_S_keep_34 (hg.s rfl) (hg.i (by decide)) rfl (by omega) (by decide) (by rw [hI.2.2.2 33 i (by omega) (by omega) (by omega), ht i (by omega), hmt i hi]; rfl) ?_
    refine pm_dup2 d_S_keep_35 rfl rfl ?_
    refine pm_iaload' (m i) (nI (A.2.1 i (m i))) d_S_keep_36 (hg.s (sh_36 _ (by omega))) (hg.i (by have := ((by omega) : i < 8); omega)) rfl (hm i hi) (by decide) (by rw [hI.2.1 i (m i) (by omega) (hm i hi), if_neg (by omega)]) ?_
    refine pm_iconst' (nI 1) d_S_keep_37 (by decide) ?_
    refine pm_iaddN d_S_keep_38 ?_
    refine pm_iastore (m i) d_S_keep_39 (hg.s (sh_36 _ (by omega))) (hg.i (by have := ((by omega) : i < 8); omega)) rfl (hm i hi) (by decide) ?_
    refine pm_aload_n d_S_keep_40 rfl ?_
    refine pm_geti' (nI (A.1 + 1)) d_S_keep_41 hf_S_34 (hg.s rfl) (hg.i (by decide)) rfl (kp_often hI (by omega) (hm i hi)).1 ?_
    refine pm_iconst' (nI 1) d_S_keep_44 (by decide) ?_
    refine pm_icmp_neN 60 d_S_keep_45 rfl (by omega) (by omega) (fun c45 => ?_) (fun c45 => ?_)
    · refine pm_iinc' (nI (i + 1)) d_S_keep_60 (by decide) rfl (pm_inc _) ?_
      refine pm_goto 12 d_S_keep_63 rfl ?_
      -- at 12: lo=[some (pm_R 32), some (pm_I (nI (i + 1)))] st=[]
      exact ih _ (kp_a hI (by omega) (hm i hi) (by omega))
    · refine pm_aload_n d_S_keep_48 rfl ?_
      refine pm_getr d_S_keep_49 hf_S_15 (hg.s rfl) (hg.i (by decide)) rfl (hg.r (by decide) rfl) ?_
      refine pm_iload_n d_S_keep_52 rfl ?_
      refine pm_aload_n d_S_keep_53 rfl ?_
      refine pm_getr d_S_keep_54 hf_S_9 (hg.s rfl) (hg.i (by decide)) rfl (hg.r (by decide) rfl) ?_
      refine pm_iload_n d_S_keep_57 rfl ?_
      refine pm_iaload' i (nI (m i)) d_S_keep_58 (hg.s rfl) (hg.i (by decide)) rfl (by omega) (by decide) (by rw [pm_up_ne (by omega), hI.2.2.2 33 i (by omega) (by omega) (by omega), ht i (by omega), hmt i hi]; rfl) ?_
      refine pm_iastore i d_S_keep_59 (hg.s rfl) (hg.i (by decide)) rfl (by omega) (by decide) ?_
      refine pm_iinc' (nI (i + 1)) d_S_keep_60 (by decide) rfl (pm_inc _) ?_
      refine pm_goto 12 d_S_keep_63 rfl ?_
      -- at 12: lo=[some (pm_R 32), some (pm_I (nI (i + 1)))] st=[]
      exact ih _ (kp_b hI (by omega) (hm i hi) (by omega))
  · have h4' : σ₂ 1 4 = nI n := by rw [hI.2.2.2 1 4 (by omega) (by omega) (by omega)]; exact h4
    refine pm_iload_n d_S_keep_12 rfl ?_
    refine pm_aload_n d_S_keep_13 rfl ?_
    refine pm_getr d_S_keep_14 hf_S_27 (hg.s rfl) (hg.i (by decide)) rfl (hg.r (by decide) rfl) ?_
    refine pm_callR (i := 1) (ci := 1) (rest := [pm_I (nI n)]) [] hB d_S_keep_17 hc_S_55 (k_W_count hg h4') (hg.s rfl) (hg.i (by decide)) rfl rfl rfl rfl (Nat.le_of_ble_eq_true rfl) (Nat.le_of_ble_eq_true rfl) (by omega) (by omega) ?_
    refine pm_icmp_ge_t 66 d_S_keep_20 rfl (by rw [nI_leI (by omega) (by omega)]; omega) ?_
    exact pm_return d_S_keep_66 rfl (fun _ => rfl) (Nat.le_refl _) (Nat.le_refl _) ⟨⟨rfl, kp_end hI, hI.2.2.2⟩, rfl⟩
end S1
end
section
/-! the stable matchings: the search -/
theorem T_back {t : Nat → Option Nat} {p q : Nat} (hp : t p = none) (hq : t q = none) : cs_up (cs_up (cs_up (cs_up t p (some q)) q (some p)) p none) q none = t := by
  funext a
  unfold cs_up
  by_cases e1 : a = q
  · rw [if_pos e1, e1, hq]
  · rw [if_neg e1]
    by_cases e2 : a = p
    · rw [if_pos e2, e2, hp]
    · rw [if_neg e2, if_neg e1, if_neg e2]
theorem cs_with_le {n : Nat} {rk : Nat → Nat → Nat} {p q N : Nat} {t : Nat → Option Nat} {go : (Nat → Option Nat) → rh_A → rh_A} (h : ∀ t A, (go t A).1 ≤ A.1 + N) (A : rh_A) : (cs_with n rk p t go A q).1 ≤ A.1 + N := by
  unfold cs_with
  split
  · omega
  · exact h _ _
theorem cs_fold_le {N : Nat} {t : Nat → Option Nat} {rk : Nat → Nat → Nat} {p : Nat} {f : rh_A → Nat → rh_A} (h : ∀ A q, (f A q).1 ≤ A.1 + N) : ∀ (l : List Nat) (A : rh_A), (l.foldl (fun A q => if t q = none ∧ rk p q < 8 then f A q else A) A).1 ≤ A.1 + l.length * N
  | [], A => by simp
  | q :: l, A => by
    rw [List.foldl_cons]
    have h1 := cs_fold_le (t := t) (rk := rk) (p := p) h l (if t q = none ∧ rk p q < 8 then f A q else A)
    have h2 : (if t q = none ∧ rk p q < 8 then f A q else A).1 ≤ A.1 + N := by
      split
      · exact h A q
      · omega
    rw [List.length_cons, Nat.succ_mul]
    omega
theorem cs_le {n : Nat} {L : Nat → List Nat} {rk : Nat → Nat → Nat} (hl : ∀ p, (L p).length ≤ 7) : ∀ (k p : Nat) (t : Nat → Option Nat) (A : rh_A), (cs_search n L rk k p t A).1 ≤ A.1 + 9 ^ k
  | 0, p, t, A => Nat.le_refl _
  | k + 1, p, t, A => by
    have e : 9 ^ (k + 1) = 9 * 9 ^ k := by rw [Nat.pow_succ, Nat.mul_comm]
    unfold cs_search
    split
    · have := cs_le (n := n) (rk := rk) hl k (p + 1) t A
      omega
    · have h1 := cs_with_le (n := n) (rk := rk) (p := p) (q := p) (t := t) (N := 9 ^ k) (go := cs_search n L rk k (p + 1)) (cs_le hl k (p + 1)) ((L p).foldl (fun A q => if t q = none ∧ rk p q < 8 then cs_with n rk p t (cs_search n L rk k (p + 1)) A q else A) A)
      have h2 := cs_fold_le (t := t) (rk := rk) (p := p) (N := 9 ^ k) (f := fun A q => cs_with n rk p t (cs_search n L rk k (p + 1)) A q) (fun A q => cs_with_le (cs_le hl k (p + 1)) A) (L p) A
      have h3 : (L p).length * 9 ^ k ≤ 7 * 9 ^ k := Nat.mul_le_mul_right _ (hl p)
      omega
def sr_ok (p : Nat) (t : Nat → Option Nat) : Prop := (∀ a, a < p → ∃ c, t a = some c) ∧ ∀ a c, t a = some c → c < 8
theorem wf_len {n : Nat} {L : Nat → List Nat} (hw : rh_wf n L) (p : Nat) : (L p).length ≤ 7 := by
  by_cases hp : p < n
  · exact wf_l hw hp
  · rw [hw.2.2 p (by omega)]; decide
theorem sr_next {p q : Nat} {t : Nat → Option Nat} (h : sr_ok p t) (hp : p < 8) (hq : q < 8) : sr_ok (p + 1) (cs_up (cs_up t p (some q)) q (some p)) := by
  refine ⟨fun a ha => ?_, fun a c hc => ?_⟩
  · unfold cs_up
    by_cases e1 : a = q
    · rw [if_pos e1]; exact ⟨p, rfl⟩
    · rw [if_neg e1]
      by_cases e2 : a = p
      · rw [if_pos e2]; exact ⟨q, rfl⟩
      · rw [if_neg e2]; exact h.1 a (by omega)
  · unfold cs_up at hc
    by_cases e1 : a = q
    · rw [if_pos e1] at hc; cases hc; exact hp
    · rw [if_neg e1] at hc
      by_cases e2 : a = p
      · rw [if_pos e2] at hc; cases hc; exact hq
      · rw [if_neg e2] at hc; exact h.2 a c hc
section S2
variable {b : pB} {g : pG} {τ : pJ} {n : Nat} {L : Nat → List Nat}
abbrev se_ (n : Nat) (L : Nat → List Nat) (t : Nat → Option Nat) (A' : rh_A) (σ : pI) (τ : pJ) : pE := pm_Wp (fun v σ' => v = none ∧ ci_T 33 t σ' ∧ ci_A n A' σ' ∧ st_fr σ σ') τ
theorem k_S_searchWith {d k p q : Nat} {t : Nat → Option Nat} {A : rh_A} {σ : pI} (hg : pm_gok 48 g) (hB : pm_base b) (hw : rh_wf n L) (hp : p < n) (hq : q < n) (hE : env_ n L σ) (ht : ci_T 33 t σ) (hA : ci_A n A σ) (hr : sr_ok p t) (htp : t p = none) (htq : t q = none) (hbd : A.1 + 9 ^ k ≤ 43046721)
    (hSr : ∀ (t : Nat → Option Nat) (A : rh_A) (σ : pI), env_ n L σ → ci_T 33 t σ → ci_A n A σ → sr_ok (p + 1) t → A.1 + 9 ^ k ≤ 43046721 → pm_C b (d + 1) km_S_search [pm_R 32, pm_I (nI (p + 1))] g σ τ 0 0 (se_ n L t (cs_search n L (rh_rk L) k (p + 1) t A) σ τ)) :
    pm_C b (d + 2) km_S_searchWith [pm_R 32, pm_I (nI p), pm_I (nI q)] g σ τ 0 0 (se_ n L t (cs_with n (rh_rk L) p t (cs_search n L (rh_rk L) k (p + 1)) A q) σ τ) := by
  have h8 := hw.1
  have hp8 : p < 8 := by omega
  have hq8 : q < 8 := by omega
  have hE2 : env_ n L (pm_up (pm_up σ 33 p (nI q)) 33 q (nI p)) := env_of hE (fun c x hc => by rw [pm_up_ne (by omega), pm_up_ne (by omega)])
  have hT2 : ci_T 33 (cs_up (cs_up t p (some q)) q (some p)) (pm_up (pm_up σ 33 p (nI q)) 33 q (nI p)) := T_up (T_up ht)
  have hA2 : ci_A n A (pm_up (pm_up σ 33 p (nI q)) 33 q (nI p)) := A_of hA (by rw [pm_up_ne (by omega), pm_up_ne (by omega)]) (fun c x h1 h2 => by rw [pm_up_ne (by omega), pm_up_ne (by omega)]) (fun x => by rw [pm_up_ne (by omega), pm_up_ne (by omega)])
  have hr2 := sr_next hr hp8 hq8
  have hxq : (cs_up (cs_up t p (some q)) q (some p)) q = some p := if_pos rfl
  have hxp : (cs_up (cs_up t p (some q)) q (some p)) p = some q := by
    unfold cs_up
    by_cases e : p = q
    · rw [if_pos e, e]
    · rw [if_neg e, if_pos rfl]
  show pm_Y b (d + 2) km_S_searchWith 0 false [some (pm_R 32), some (pm_I (nI p)), some (pm_I (nI q))] [] g σ τ 0 0 0 0 _
  refine pm_aload_n d_S_searchWith_0 rfl ?_
  refine pm_getr d_S_searchWith_1 hf_S_9 (hg.s rfl) (hg.i (by decide)) rfl (hg.r (by decide) rfl) ?_
  refine pm_iload_n d_S_searchWith_4 rfl ?_
  refine pm_iload_n d_S_searchWith_5 rfl ?_
  refine pm_iastore p d_S_searchWith_6 (hg.s rfl) (hg.i (by decide)) rfl hp8 (by decide) ?_
  refine pm_aload_n d_S_searchWith_7 rfl ?_
  refine pm_getr d_S_searchWith_8 hf_S_9 (hg.s rfl) (hg.i (by decide)) rfl (hg.r (by decide) rfl) ?_
  refine pm_iload_n d_S_searchWith_11 rfl ?_
  refine pm_iload_n d_S_searchWith_12 rfl ?_
  refine pm_iastore q d_S_searchWith_13 (hg.s rfl) (hg.i (by decide)) rfl hq8 (by decide) ?_
  refine pm_aload_n d_S_searchWith_14 rfl ?_
  refine pm_getr d_S_searchWith_15 hf_S_27 (hg.s rfl) (hg.i (by decide)) rfl (hg.r (by decide) rfl) ?_
  refine pm_iload_n d_S_searchWith_18 rfl ?_
  refine pm_aload_n d_S_searchWith_19 rfl ?_
  refine pm_getr d_S_searchWith_20 hf_S_9 (hg.s rfl) (hg.i (by decide)) rfl (hg.r (by decide) rfl) ?_
  refine pm_callR (i := 1) (ci := 1) (rest := []) [pm_I (nI p), pm_R 33] hB d_S_searchWith_23 hc_S_69 (k_W_wouldBlockWithAny (x := q) hg hB hw hE2.1 hE2.2.2 hp8 rfl (hg.i (by decide)) hT2 hr2.2 hxp) (hg.s rfl) (hg.i (by decide)) rfl rfl rfl rfl (Nat.le_of_ble_eq_true rfl) (Nat.le_of_ble_eq_true rfl) (by omega) (by omega) ?_
  refine pm_if_neB 51 d_S_searchWith_26 rfl (fun c26 => ?_) (fun c26 => ?_)
  · refine pm_aload_n d_S_searchWith_51 rfl ?_
    refine pm_getr d_S_searchWith_52 hf_S_9 (hg.s rfl) (hg.i (by decide)) rfl (hg.r (by decide) rfl) ?_
    refine pm_iload_n d_S_searchWith_55 rfl ?_
    refine pm_iconst' (-1) d_S_searchWith_56 (by decide) ?_
    refine pm_iastore p d_S_searchWith_57 (hg.s rfl) (hg.i (by decide)) rfl hp8 (by decide) ?_
    refine pm_aload_n d_S_searchWith_58 rfl ?_
    refine pm_getr d_S_searchWith_59 hf_S_9 (hg.s rfl) (hg.i (by decide)) rfl (hg.r (by decide) rfl) ?_
    refine pm_iload_n d_S_searchWith_62 rfl ?_
    refine pm_iconst' (-1) d_S_searchWith_63 (by decide) ?_
    refine pm_iastore q d_S_searchWith_64 (hg.s rfl) (hg.i (by decide)) rfl hq8 (by decide) ?_
    exact pm_return d_S_searchWith_65 rfl (fun _ => rfl) (Nat.le_refl _) (Nat.le_refl _) ⟨⟨rfl, by have h9 := T_dn (a := q) (T_dn (a := p) hT2); rw [T_back htp htq] at h9; exact h9, by
            unfold cs_with
            rw [if_pos (by rw [c26]; rfl)]
            exact A_of hA2 (by rw [pm_up_ne (by omega), pm_up_ne (by omega)]) (fun c x h1 h2 => by rw [pm_up_ne (by omega), pm_up_ne (by omega)]) (fun x => by rw [pm_up_ne (by omega), pm_up_ne (by omega)]), fun c x a1 a2 a3 a4 => by rw [pm_up_ne (by omega), pm_up_ne (by omega), pm_up_ne (by omega), pm_up_ne (by omega)]⟩, rfl⟩
  · refine pm_aload_n d_S_searchWith_29 rfl ?_
    refine pm_getr d_S_searchWith_30 hf_S_27 (hg.s rfl) (hg.i (by decide)) rfl (hg.r (by decide) rfl) ?_
    refine pm_iload_n d_S_searchWith_33 rfl ?_
    refine pm_aload_n d_S_searchWith_34 rfl ?_
    refine pm_getr d_S_searchWith_35 hf_S_9 (hg.s rfl) (hg.i (by decide)) rfl (hg.r (by decide) rfl) ?_
    refine pm_callR (i := 1) (ci := 1) (rest := []) [pm_I (nI q), pm_R 33] hB d_S_searchWith_38 hc_S_69 (k_W_wouldBlockWithAny (x := p) hg hB hw hE2.1 hE2.2.2 hq8 rfl (hg.i (by decide)) hT2 hr2.2 hxq) (hg.s rfl) (hg.i (by decide)) rfl rfl rfl rfl (Nat.le_of_ble_eq_true rfl) (Nat.le_of_ble_eq_true rfl) (by omega) (by omega) ?_
    refine pm_if_neB 51 d_S_searchWith_41 rfl (fun c41 => ?_) (fun c41 => ?_)
    · refine pm_aload_n d_S_searchWith_51 rfl ?_
      refine pm_getr d_S_searchWith_52 hf_S_9 (hg.s rfl) (hg.i (by decide)) rfl (hg.r (by decide) rfl) ?_
      refine pm_iload_n d_S_searchWith_55 rfl ?_
      refine pm_iconst' (-1) d_S_searchWith_56 (by decide) ?_
      refine pm_iastore p d_S_searchWith_57 (hg.s rfl) (hg.i (by decide)) rfl hp8 (by decide) ?_
      refine pm_aload_n d_S_searchWith_58 rfl ?_
      refine pm_getr d_S_searchWith_59 hf_S_9 (hg.s rfl) (hg.i (by decide)) rfl (hg.r (by decide) rfl) ?_
      refine pm_iload_n d_S_searchWith_62 rfl ?_
      refine pm_iconst' (-1) d_S_searchWith_63 (by decide) ?_
      refine pm_iastore q d_S_searchWith_64 (hg.s rfl) (hg.i (by decide)) rfl hq8 (by decide) ?_
      exact pm_return d_S_searchWith_65 rfl (fun _ => rfl) (Nat.le_refl _) (Nat.le_refl _) ⟨⟨rfl, by have h9 := T_dn (a := q) (T_dn (a := p) hT2); rw [T_back htp htq] at h9; exact h9, by
            unfold cs_with
            rw [if_pos (by rw [c26, c41]; rfl)]
            exact A_of hA2 (by rw [pm_up_ne (by omega), pm_up_ne (by omega)]) (fun c x h1 h2 => by rw [pm_up_ne (by omega), pm_up_ne (by omega)]) (fun x => by rw [pm_up_ne (by omega), pm_up_ne (by omega)]), fun c x a1 a2 a3 a4 => by rw [pm_up_ne (by omega), pm_up_ne (by omega), pm_up_ne (by omega), pm_up_ne (by omega)]⟩, rfl⟩
    · refine pm_aload_n d_S_searchWith_44 rfl ?_
      refine pm_iload_n d_S_searchWith_45 rfl ?_
      refine pm_iconst' (nI 1) d_S_searchWith_46 (by decide) ?_
      refine pm_iaddN d_S_searchWith_47 ?_
      refine pm_callWp (i := 32) (ci := 3) (rest := []) [pm_I (nI (p + 1))] hB d_S_searchWith_48 hc_S_51 (hSr _ _ _ hE2 hT2 hA2 hr2 hbd) (hg.s rfl) (hg.i (by decide)) rfl rfl rfl rfl (Nat.le_of_ble_eq_true rfl) (Nat.le_of_ble_eq_true rfl) (by omega) (by omega) (fun v48 σ₃ hv48 hq48 => ?_)
      obtain ⟨rfl, hT3, hA3, hf3⟩ := hq48
      show pm_Y b _ km_S_searchWith 51 true [some (pm_R 32), some (pm_I (nI p)), some (pm_I (nI q))] [] g σ₃ τ 0 0 0 0 _
      refine pm_aload_n d_S_searchWith_51 rfl ?_
      refine pm_getr d_S_searchWith_52 hf_S_9 (hg.s rfl) (hg.i (by decide)) rfl (hg.r (by decide) rfl) ?_
      refine pm_iload_n d_S_searchWith_55 rfl ?_
      refine pm_iconst' (-1) d_S_searchWith_56 (by decide) ?_
      refine pm_iastore p d_S_searchWith_57 (hg.s rfl) (hg.i (by decide)) rfl hp8 (by decide) ?_
      refine pm_aload_n d_S_searchWith_58 rfl ?_
      refine pm_getr d_S_searchWith_59 hf_S_9 (hg.s rfl) (hg.i (by decide)) rfl (hg.r (by decide) rfl) ?_
      refine pm_iload_n d_S_searchWith_62 rfl ?_
      refine pm_iconst' (-1) d_S_searchWith_63 (by decide) ?_
      refine pm_iastore q d_S_searchWith_64 (hg.s rfl) (hg.i (by decide)) rfl hq8 (by decide) ?_
      exact pm_return d_S_searchWith_65 rfl (fun _ => rfl) (Nat.le_refl _) (Nat.le_refl _) ⟨⟨rfl, by have h9 := T_dn (a := q) (T_dn (a := p) hT3); rw [T_back htp htq] at h9; exact h9, by
            unfold cs_with
            rw [if_neg (by rw [c26, c41]; decide)]
            exact A_of hA3 (by rw [pm_up_ne (by omega), pm_up_ne (by omega)]) (fun c x h1 h2 => by rw [pm_up_ne (by omega), pm_up_ne (by omega)]) (fun x => by rw [pm_up_ne (by omega), pm_up_ne (by omega)]), fun c x a1 a2 a3 a4 => by rw [pm_up_ne (by omega), pm_up_ne (by omega), hf3 c x a1 a2 a3 a4, pm_up_ne (by omega), pm_up_ne (by omega)]⟩, rfl⟩
theorem l_S_search_36 {d k p : Nat} {t : Nat → Option Nat} {A : rh_A} {σ : pI} (hg : pm_gok 48 g) (hB : pm_base b) (hw : rh_wf n L) (hp : p < n) (hE : env_ n L σ) (ht : ci_T 33 t σ) (hA : ci_A n A σ) (hr : sr_ok p t) (htp : t p = none) (hbd : A.1 + 9 ^ (k + 1) ≤ 43046721)
    (hSr : ∀ (t : Nat → Option Nat) (A : rh_A) (σ : pI), env_ n L σ → ci_T 33 t σ → ci_A n A σ → sr_ok (p + 1) t → A.1 + 9 ^ k ≤ 43046721 → pm_C b (d + 2 * k + 2 + 1) km_S_search [pm_R 32, pm_I (nI (p + 1))] g σ τ 0 0 (se_ n L t (cs_search n L (rh_rk L) k (p + 1) t A) σ τ)) (l3 : Option pV) :
    pm_Y b (d + 2 * k + 4 + 1) km_S_search 36 true [some (pm_R 32), some (pm_I (nI p)), some (pm_I (nI 0)), l3] [] g σ τ 0 0 0 0 (se_ n L t (cs_search n L (rh_rk L) (k + 1) p t A) σ τ) := by
  have h8 := hw.1
  have hp8 : p < 8 := by omega
  have hl7 := wf_l hw hp
  have hlb := wf_b hw hp
  have ep : 9 ^ (k + 1) = 9 * 9 ^ k := by rw [Nat.pow_succ, Nat.mul_comm]
  have hle : ∀ i, i ≤ (L p).length → (((L p).take i).foldl (fun A q => if t q = none ∧ rh_rk L p q < 8 then cs_with n (rh_rk L) p t (cs_search n L (rh_rk L) k (p + 1)) A q else A) A).1 + 9 ^ k ≤ 43046721 := fun i hi => by
    have h2 := cs_fold_le (t := t) (rk := rh_rk L) (p := p) (N := 9 ^ k) (f := fun A q => cs_with n (rh_rk L) p t (cs_search n L (rh_rk L) k (p + 1)) A q) (fun A q => cs_with_le (cs_le (wf_len hw) k (p + 1)) A) ((L p).take i) A
    have h3 : ((L p).take i).length * 9 ^ k ≤ 7 * 9 ^ k := Nat.mul_le_mul_right _ (by rw [List.length_take]; omega)
    omega
  refine pm_for (L p).length (fun i σ₂ => ∀ l3 : Option pV, pm_Y b (d + 2 * k + 4 + 1) km_S_search 36 true [some (pm_R 32), some (pm_I (nI p)), some (pm_I (nI i)), l3] [] g σ₂ τ 0 0 0 0 (se_ n L t (cs_search n L (rh_rk L) (k + 1) p t A) σ τ)) (fun i σ₂ => ci_T 33 t σ₂ ∧ ci_A n (((L p).take i).foldl (fun A q => if t q = none ∧ rh_rk L p q < 8 then cs_with n (rh_rk L) p t (cs_search n L (rh_rk L) k (p + 1)) A q else A) A) σ₂ ∧ st_fr σ σ₂) (fun i σ₂ hi hI ih l3 => ?_) (fun σ₂ hI l3 => ?_) (L p).length 0 σ (by omega) ⟨ht, hA, fun _ _ _ _ _ _ => rfl⟩ l3
  · obtain ⟨hT2, hA2, hf2⟩ := hI
    have hE2 : env_ n L σ₂ := env_of hE hf2.lo
    have hqm : (L p).getD i 0 ∈ L p := (mem_get _ _).mpr ⟨i, hi, rfl⟩
    have hqn := ((hw.2.1 p hp).2 _ hqm).1
    have hbd2 := hle i (by omega)
    have hstep : ((L p).take (i + 1)).foldl (fun A q => if t q = none ∧ rh_rk L p q < 8 then cs_with n (rh_rk L) p t (cs_search n L (rh_rk L) k (p + 1)) A q else A) A = (fun A q => if t q = none ∧ rh_rk L p q < 8 then cs_with n (rh_rk L) p t (cs_search n L (rh_rk L) k (p + 1)) A q else A) (((L p).take i).foldl (fun A q => if t q = none ∧ rh_rk L p q < 8 then cs_with n (rh_rk L) p t (cs_search n L (rh_rk L) k (p + 1)) A q else A) A) ((L p).getD i 0) := by
      rw [List.take_add_one, List.getElem?_eq_getElem hi, List.foldl_append]
      show _ = (fun A q => if t q = none ∧ rh_rk L p q < 8 then cs_with n (rh_rk L) p t (cs_search n L (rh_rk L) k (p + 1)) A q else A) _ _
      rw [List.getD_eq_getElem?_getD, List.getElem?_eq_getElem hi]
      rfl
    dsimp only at hstep
    refine pm_iload_n d_S_search_36 rfl ?_
    refine pm_aload_n d_S_search_37 rfl ?_
    refine pm_getr d_S_search_38 hf_S_27 (hg.s rfl) (hg.i (by decide)) rfl (hg.r (by decide) rfl) ?_
    refine pm_iload_n d_S_search_41 rfl ?_
    refine pm_callR (i := 1) (ci := 1) (rest := [pm_I (nI i)]) [pm_I (nI p)] hB d_S_search_42 hc_S_37 (k_W_length hg hE2.2.1 hp8) (hg.s rfl) (hg.i (by decide)) rfl rfl rfl rfl (Nat.le_of_ble_eq_true rfl) (Nat.le_of_ble_eq_true rfl) (by omega) (by omega) ?_
    refine pm_icmp_ge_f 92 d_S_search_45 rfl (by rw [nI_leI (by omega) (by omega)]; omega) ?_
    cases e : t ((L p).getD i 0) with
    | some y =>
      refine pm_aload_n d_S_search_48 rfl ?_
      refine pm_getr d_S_search_49 hf_S_27 (hg.s rfl) (hg.i (by decide)) rfl (hg.r (by decide) rfl) ?_
      refine pm_iload_n d_S_search_52 rfl ?_
      refine pm_iload_n d_S_search_53 rfl ?_
      refine pm_callR (i := 1) (ci := 1) (rest := []) [pm_I (nI p), pm_I (nI i)] hB d_S_search_54 hc_S_43 (k_W_otherAt hg hE2.2.1 hp8 hi (by omega)) (hg.s rfl) (hg.i (by decide)) rfl rfl rfl rfl (Nat.le_of_ble_eq_true rfl) (Nat.le_of_ble_eq_true rfl) (by omega) (by omega) ?_
      refine pm_istore_n d_S_search_57 (by decide) ?_
      refine pm_aload_n d_S_search_58 rfl ?_
      refine pm_getr d_S_search_59 hf_S_9 (hg.s rfl) (hg.i (by decide)) rfl (hg.r (by decide) rfl) ?_
      refine pm_iload_n d_S_search_62 rfl ?_
      refine pm_iaload' ((L p).getD i 0) (nI y) d_S_search_63 (hg.s rfl) (hg.i (by decide)) rfl (hlb i) (by decide) (by rw [hT2 _ (hlb i), e]; rfl) ?_
      refine pm_iconst' (-1) d_S_search_64 (by decide) ?_
      refine pm_icmp_ne_t 86 d_S_search_65 rfl (nI_m1 (by have := hr.2 _ _ e; omega)) ?_
      refine pm_iinc' (nI (i + 1)) d_S_search_86 (by decide) rfl (pm_inc _) ?_
      refine pm_goto 36 d_S_search_89 rfl ?_
      -- at 36: lo=[some (pm_R 32), some (pm_I (nI p)), some (pm_I (nI (i + 1))), some (pm_I (nI ((L p).getD i 0)))] st=[]
      exact ih _ (by rw [hstep, if_neg (fun z => by rw [e] at z; cases z.1)]; exact ⟨hT2, hA2, hf2⟩) _
    | none =>
      refine pm_aload_n d_S_search_48 rfl ?_
      refine pm_getr d_S_search_49 hf_S_27 (hg.s rfl) (hg.i (by decide)) rfl (hg.r (by decide) rfl) ?_
      refine pm_iload_n d_S_search_52 rfl ?_
      refine pm_iload_n d_S_search_53 rfl ?_
      refine pm_callR (i := 1) (ci := 1) (rest := []) [pm_I (nI p), pm_I (nI i)] hB d_S_search_54 hc_S_43 (k_W_otherAt hg hE2.2.1 hp8 hi (by omega)) (hg.s rfl) (hg.i (by decide)) rfl rfl rfl rfl (Nat.le_of_ble_eq_true rfl) (Nat.le_of_ble_eq_true rfl) (by omega) (by omega) ?_
      refine pm_istore_n d_S_search_57 (by decide) ?_
      refine pm_aload_n d_S_search_58 rfl ?_
      refine pm_getr d_S_search_59 hf_S_9 (hg.s rfl) (hg.i (by decide)) rfl (hg.r (by decide) rfl) ?_
      refine pm_iload_n d_S_search_62 rfl ?_
      refine pm_iaload' ((L p).getD i 0) (-1) d_S_search_63 (hg.s rfl) (hg.i (by decide)) rfl (hlb i) (by decide) (by rw [hT2 _ (hlb i), e]; rfl) ?_
      refine pm_iconst' (-1) d_S_search_64 (by decide) ?_
      refine pm_icmp_ne_f 86 d_S_search_65 rfl rfl ?_
      refine pm_aload_n d_S_search_68 rfl ?_
      refine pm_getr d_S_search_69 hf_S_27 (hg.s rfl) (hg.i (by decide)) rfl (hg.r (by decide) rfl) ?_
      refine pm_iload_n d_S_search_72 rfl ?_
      refine pm_iload_n d_S_search_73 rfl ?_
      refine pm_callR (i := 1) (ci := 1) (rest := []) [pm_I (nI p), pm_I (nI ((L p).getD i 0))] hB d_S_search_74 hc_S_61 (k_W_arePossible hg hw hE2.2.2 hp8 (hlb i)) (hg.s rfl) (hg.i (by decide)) rfl rfl rfl rfl (Nat.le_of_ble_eq_true rfl) (Nat.le_of_ble_eq_true rfl) (by omega) (by omega) ?_
      refine pm_if_eqB 86 d_S_search_77 rfl (fun c77 => ?_) (fun c77 => ?_)
      · refine pm_iinc' (nI (i + 1)) d_S_search_86 (by decide) rfl (pm_inc _) ?_
        refine pm_goto 36 d_S_search_89 rfl ?_
        -- at 36: lo=[some (pm_R 32), some (pm_I (nI p)), some (pm_I (nI (i + 1))), some (pm_I (nI ((L p).getD i 0)))] st=[]
        exact ih _ (by rw [hstep, if_neg (fun z => (of_decide_eq_false c77) z.2)]; exact ⟨hT2, hA2, hf2⟩) _
      · refine pm_aload_n d_S_search_80 rfl ?_
        refine pm_iload_n d_S_search_81 rfl ?_
        refine pm_iload_n d_S_search_82 rfl ?_
        refine pm_callWp (i := 32) (ci := 3) (rest := []) [pm_I (nI p), pm_I (nI ((L p).getD i 0))] hB d_S_search_83 hc_S_65 (k_S_searchWith (k := k) hg hB hw hp hqn hE2 hT2 hA2 hr htp e hbd2 hSr) (hg.s rfl) (hg.i (by decide)) rfl rfl rfl rfl (Nat.le_of_ble_eq_true rfl) (Nat.le_of_ble_eq_true rfl) (by omega) (by omega) (fun v83 σ₃ hv83 hq83 => ?_)
        obtain ⟨rfl, hT3, hA3, hf3⟩ := hq83
        show pm_Y b _ km_S_search 86 true [some (pm_R 32), some (pm_I (nI p)), some (pm_I (nI i)), some (pm_I (nI ((L p).getD i 0)))] [] g σ₃ τ 0 0 0 0 _
        refine pm_iinc' (nI (i + 1)) d_S_search_86 (by decide) rfl (pm_inc _) ?_
        refine pm_goto 36 d_S_search_89 rfl ?_
        -- at 36: lo=[some (pm_R 32), some (pm_I (nI p)), some (pm_I (nI (i + 1))), some (pm_I (nI ((L p).getD i 0)))] st=[]
        exact ih _ (by rw [hstep, if_pos ⟨e, of_decide_eq_true c77⟩]; exact ⟨hT3, hA3, hf2.tr hf3⟩) _
  · obtain ⟨hT2, hA2, hf2⟩ := hI
    have hE2 : env_ n L σ₂ := env_of hE hf2.lo
    have hbd2 := hle (L p).length (Nat.le_refl _)
    refine pm_iload_n d_S_search_36 rfl ?_
    refine pm_aload_n d_S_search_37 rfl ?_
    refine pm_getr d_S_search_38 hf_S_27 (hg.s rfl) (hg.i (by decide)) rfl (hg.r (by decide) rfl) ?_
    refine pm_iload_n d_S_search_41 rfl ?_
    refine pm_callR (i := 1) (ci := 1) (rest := [pm_I (nI (L p).length)]) [pm_I (nI p)] hB d_S_search_42 hc_S_37 (k_W_length hg hE2.2.1 hp8) (hg.s rfl) (hg.i (by decide)) rfl rfl rfl rfl (Nat.le_of_ble_eq_true rfl) (Nat.le_of_ble_eq_true rfl) (by omega) (by omega) ?_
    refine pm_icmp_ge_t 92 d_S_search_45 rfl (by rw [nI_leI (by omega) (by omega)]; omega) ?_
    refine pm_aload_n d_S_search_92 rfl ?_
    refine pm_iload_n d_S_search_93 rfl ?_
    refine pm_iload_n d_S_search_94 rfl ?_
    refine pm_callWp (i := 32) (ci := 3) (rest := []) [pm_I (nI p), pm_I (nI p)] hB d_S_search_95 hc_S_65 (k_S_searchWith (k := k) hg hB hw hp hp hE2 hT2 hA2 hr htp htp hbd2 hSr) (hg.s rfl) (hg.i (by decide)) rfl rfl rfl rfl (Nat.le_of_ble_eq_true rfl) (Nat.le_of_ble_eq_true rfl) (by omega) (by omega) (fun v95 σ₃ hv95 hq95 => ?_)
    obtain ⟨rfl, hT3, hA3, hf3⟩ := hq95
    show pm_Y b _ km_S_search 98 true [some (pm_R 32), some (pm_I (nI p)), some (pm_I (nI ((L p).length))), l3] [] g σ₃ τ 0 0 0 0 _
    exact pm_return d_S_search_98 rfl (fun _ => rfl) (Nat.le_refl _) (Nat.le_refl _) ⟨⟨rfl, hT3, by
      have e9 : cs_search n L (rh_rk L) (k + 1) p t A = cs_with n (rh_rk L) p t (cs_search n L (rh_rk L) k (p + 1)) ((L p).foldl (fun A q => if t q = none ∧ rh_rk L p q < 8 then cs_with n (rh_rk L) p t (cs_search n L (rh_rk L) k (p + 1)) A q else A) A) p := by
        show (match t p with | some _ => _ | none => _) = _
        rw [htp]
      rw [e9]
      rw [List.take_length] at hA3
      exact hA3, hf2.tr hf3⟩, rfl⟩
theorem k_S_search {d : Nat} (hg : pm_gok 48 g) (hB : pm_base b) (hw : rh_wf n L) : ∀ (k p : Nat) (t : Nat → Option Nat) (A : rh_A) (σ : pI), p + k = n → env_ n L σ → ci_T 33 t σ → ci_A n A σ → sr_ok p t → A.1 + 9 ^ k ≤ 43046721 → pm_C b (d + 2 * k + 3) km_S_search [pm_R 32, pm_I (nI p)] g σ τ 0 0 (se_ n L t (cs_search n L (rh_rk L) k p t A) σ τ)
  | 0, p, t, A, σ, hk, hE, ht, hA, hr, hbd => by
    have h8 := hw.1
    have e0 : p = n := by omega
    rw [e0] at hr ⊢
    show pm_Y b (d + 2 * 0 + 3) km_S_search 0 false [some (pm_R 32), some (pm_I (nI n)), none, none] [] g σ τ 0 0 0 0 _
    refine pm_iload_n d_S_search_0 rfl ?_
    refine pm_aload_n d_S_search_1 rfl ?_
    refine pm_getr d_S_search_2 hf_S_27 (hg.s rfl) (hg.i (by decide)) rfl (hg.r (by decide) rfl) ?_
    refine pm_callR (i := 1) (ci := 1) (rest := [pm_I (nI n)]) [] hB d_S_search_5 hc_S_55 (k_W_count hg hE.1) (hg.s rfl) (hg.i (by decide)) rfl rfl rfl rfl (Nat.le_of_ble_eq_true rfl) (Nat.le_of_ble_eq_true rfl) (by omega) (by omega) ?_
    refine pm_icmp_lt_f 16 d_S_search_8 rfl (by rw [nI_ltI (by omega) (by omega)]; omega) ?_
    refine pm_aload_n d_S_search_11 rfl ?_
    refine pm_callWp (i := 32) (ci := 3) (rest := []) [] hB d_S_search_12 hc_S_58 (k_S_keep (m := fun p => (t p).getD 0) hg hB hw.1 hE.1 ht (fun p hp => by obtain ⟨c, hc⟩ := hr.1 p hp; rw [hc]; rfl) (fun p hp => by obtain ⟨c, hc⟩ := hr.1 p hp; show (t p).getD 0 < 8; rw [hc]; exact hr.2 p c hc) hA hbd) (hg.s rfl) (hg.i (by decide)) rfl rfl rfl rfl (Nat.le_of_ble_eq_true rfl) (Nat.le_of_ble_eq_true rfl) (by omega) (by omega) (fun v12 σ₃ hv12 hq12 => ?_)
    obtain ⟨rfl, hA3, hf3⟩ := hq12
    show pm_Y b _ km_S_search 15 true [some (pm_R 32), some (pm_I (nI n)), none, none] [] g σ₃ τ 0 0 0 0 _
    exact pm_return d_S_search_15 rfl (fun _ => rfl) (Nat.le_refl _) (Nat.le_refl _) ⟨⟨rfl, T_of ht (fun x => hf3 33 x (by omega) (by omega) (by omega)), hA3, fun c x a1 a2 a3 a4 => hf3 c x a2 a3 a4⟩, rfl⟩
  | k + 1, p, t, A, σ, hk, hE, ht, hA, hr, hbd => by
    have h8 := hw.1
    have hp : p < n := by omega
    have hp8 : p < 8 := by omega
    have ep : 9 ^ (k + 1) = 9 * 9 ^ k := by rw [Nat.pow_succ, Nat.mul_comm]
    have hSr : ∀ (t : Nat → Option Nat) (A : rh_A) (σ : pI), env_ n L σ → ci_T 33 t σ → ci_A n A σ → sr_ok (p + 1) t → A.1 + 9 ^ k ≤ 43046721 → pm_C b (d + 2 * k + 2 + 1) km_S_search [pm_R 32, pm_I (nI (p + 1))] g σ τ 0 0 (se_ n L t (cs_search n L (rh_rk L) k (p + 1) t A) σ τ) := fun t A σ h1 h2 h3 h4 h5 => k_S_search hg hB hw k (p + 1) t A σ (by omega) h1 h2 h3 h4 h5
    show pm_Y b (d + 2 * k + 4 + 1) km_S_search 0 false [some (pm_R 32), some (pm_I (nI p)), none, none] [] g σ τ 0 0 0 0 _
    cases e : t p with
    | some y =>
      replace hSr := fun t A σ h1 h2 h3 h4 h5 => pm_C_up (show d + 2 * k + 2 + 1 ≤ d + 2 * k + 4 by omega) (hSr t A σ h1 h2 h3 h4 h5)
      refine pm_iload_n d_S_search_0 rfl ?_
      refine pm_aload_n d_S_search_1 rfl ?_
      refine pm_getr d_S_search_2 hf_S_27 (hg.s rfl) (hg.i (by decide)) rfl (hg.r (by decide) rfl) ?_
      refine pm_callR (i := 1) (ci := 1) (rest := [pm_I (nI p)]) [] hB d_S_search_5 hc_S_55 (k_W_count hg hE.1) (hg.s rfl) (hg.i (by decide)) rfl rfl rfl rfl (Nat.le_of_ble_eq_true rfl) (Nat.le_of_ble_eq_true rfl) (by omega) (by omega) ?_
      refine pm_icmp_lt_t 16 d_S_search_8 rfl (by rw [nI_ltI (by omega) (by omega)]; omega) ?_
      refine pm_aload_n d_S_search_16 rfl ?_
      refine pm_getr d_S_search_17 hf_S_9 (hg.s rfl) (hg.i (by decide)) rfl (hg.r (by decide) rfl) ?_
      refine pm_iload_n d_S_search_20 rfl ?_
      refine pm_iaload' p (nI y) d_S_search_21 (hg.s rfl) (hg.i (by decide)) rfl hp8 (by decide) (by rw [ht p hp8, e]; rfl) ?_
      refine pm_iconst' (-1) d_S_search_22 (by decide) ?_
      refine pm_icmp_eq_f 34 d_S_search_23 rfl (nI_m1 (by have := hr.2 _ _ e; omega)) ?_
      refine pm_aload_n d_S_search_26 rfl ?_
      refine pm_iload_n d_S_search_27 rfl ?_
      refine pm_iconst' (nI 1) d_S_search_28 (by decide) ?_
      refine pm_iaddN d_S_search_29 ?_
      refine pm_callWp (i := 32) (ci := 3) (rest := []) [pm_I (nI (p + 1))] hB d_S_search_30 hc_S_51 (hSr t A σ hE ht hA ⟨fun a ha => by
      by_cases z : a = p
      · rw [z, e]; exact ⟨y, rfl⟩
      · exact hr.1 a (by omega), hr.2⟩ (by omega)) (hg.s rfl) (hg.i (by decide)) rfl rfl rfl rfl (Nat.le_of_ble_eq_true rfl) (Nat.le_of_ble_eq_true rfl) (by omega) (by omega) (fun v30 σ₃ hv30 hq30 => ?_)
      obtain ⟨rfl, hT3, hA3, hf3⟩ := hq30
      show pm_Y b _ km_S_search 33 true [some (pm_R 32), some (pm_I (nI p)), none, none] [] g σ₃ τ 0 0 0 0 _
      exact pm_return d_S_search_33 rfl (fun _ => rfl) (Nat.le_refl _) (Nat.le_refl _) ⟨⟨rfl, hT3, by
        have e9 : cs_search n L (rh_rk L) (k + 1) p t A = cs_search n L (rh_rk L) k (p + 1) t A := by
          show (match t p with | some _ => _ | none => _) = _
          rw [e]
        rw [e9]
        exact hA3, hf3⟩, rfl⟩
    | none =>
      refine pm_iload_n d_S_search_0 rfl ?_
      refine pm_aload_n d_S_search_1 rfl ?_
      refine pm_getr d_S_search_2 hf_S_27 (hg.s rfl) (hg.i (by decide)) rfl (hg.r (by decide) rfl) ?_
      refine pm_callR (i := 1) (ci := 1) (rest := [pm_I (nI p)]) [] hB d_S_search_5 hc_S_55 (k_W_count hg hE.1) (hg.s rfl) (hg.i (by decide)) rfl rfl rfl rfl (Nat.le_of_ble_eq_true rfl) (Nat.le_of_ble_eq_true rfl) (by omega) (by omega) ?_
      refine pm_icmp_lt_t 16 d_S_search_8 rfl (by rw [nI_ltI (by omega) (by omega)]; omega) ?_
      refine pm_aload_n d_S_search_16 rfl ?_
      refine pm_getr d_S_search_17 hf_S_9 (hg.s rfl) (hg.i (by decide)) rfl (hg.r (by decide) rfl) ?_
      refine pm_iload_n d_S_search_20 rfl ?_
      refine pm_iaload' p (-1) d_S_search_21 (hg.s rfl) (hg.i (by decide)) rfl hp8 (by decide) (by rw [ht p hp8, e]; rfl) ?_
      refine pm_iconst' (-1) d_S_search_22 (by decide) ?_
      refine pm_icmp_eq_t 34 d_S_search_23 rfl rfl ?_
      refine pm_iconst' (nI 0) d_S_search_34 (by decide) ?_
      refine pm_istore_n d_S_search_35 (by decide) ?_
      -- at 36: lo=[some (pm_R 32), some (pm_I (nI p)), some (pm_I (nI 0)), none] st=[]
      refine pm_flag ?_
      exact l_S_search_36 hg hB hw hp hE ht hA hr e hbd hSr none
end S2
end
section
/-! the stable matchings: reckon, and what is asked -/
def A0_ : rh_A := (0, fun _ _ => 0, fun _ => 0)
noncomputable def SA_ (n : Nat) (L : Nat → List Nat) : rh_A := rh_fold n A0_ ((rh_ext L n []).filter (rh_sm n L))
theorem SA_cs {n : Nat} {L : Nat → List Nat} (hw : rh_wf n L) : cs_search n L (rh_rk L) n 0 (fun _ => none) A0_ = SA_ n L := cs_all hw A0_
theorem SA_le {n : Nat} {L : Nat → List Nat} (hw : rh_wf n L) : (SA_ n L).1 ≤ 43046721 := by
  rw [← SA_cs hw]
  have h1 := cs_le (n := n) (rk := rh_rk L) (wf_len hw) n 0 (fun _ => none) A0_
  have h2 : 9 ^ n ≤ 9 ^ 8 := Nat.pow_le_pow_right (by decide) hw.1
  have h3 : (9 : Nat) ^ 8 = 43046721 := by decide
  have h4 : A0_.1 = 0 := rfl
  omega
/-- what is kept: reckoned at r, and if that is now, it is right -/
def sc_ (n ch : Nat) (L : Nat → List Nat) (σ : pI) : Prop := ∃ r : Option Nat, σ 32 5 = oI r ∧ (∀ x, r = some x → x ≤ ch) ∧ (r = some ch → ci_A n (SA_ n L) σ)
def sfr_ (σ₀ σ : pI) : Prop := ∀ c x, ¬ (32 ≤ c ∧ c < 44) → σ c x = σ₀ c x
def sp_ (n ch : Nat) (L : Nat → List Nat) (σ₀ σ : pI) : Prop := ci_A n (SA_ n L) σ ∧ σ 32 5 = nI ch ∧ sfr_ σ₀ σ
theorem sp_sc {n ch : Nat} {L : Nat → List Nat} {σ₀ σ : pI} (h : sp_ n ch L σ₀ σ) : sc_ n ch L σ := ⟨some ch, h.2.1, fun x hx => by cases hx; exact Nat.le_refl _, fun _ => h.1⟩
theorem sfr_.lo {σ₀ σ : pI} (h : sfr_ σ₀ σ) : ∀ c x, c < 30 → σ c x = σ₀ c x := fun c x hc => h c x (by omega)
def rc_row (σ₀ : pI) (p j : Nat) (σ : pI) : Prop := (∀ q, q < j → σ (36 + p) q = nI 0) ∧ ∀ c x, c ≠ 36 + p → σ c x = σ₀ c x
def rc_I (ch : Nat) (σ₀ : pI) (i : Nat) (σ : pI) : Prop := σ 32 4 = nI 0 ∧ σ 32 5 = nI ch ∧ (∀ p, p < i → σ 33 p = -1 ∧ ∀ q, q < 8 → σ (36 + p) q = nI 0) ∧ sfr_ σ₀ σ
section S3
variable {b : pB} {g : pG} {σ : pI} {τ : pJ} {d p q n ch : Nat} {L : Nat → List Nat}
theorem l_S_reckon_48 (hg : pm_gok 48 g) (hp : p < 8) {σ₁ : pI} {E : pE} (K : ∀ σ', rc_row σ₁ p 8 σ' → pm_Y b d km_S_reckon 69 true [some (pm_R 32), some (pm_I (nI p)), some (pm_I (nI 8))] [] g σ' τ 0 0 0 0 E) : pm_Y b d km_S_reckon 48 true [some (pm_R 32), some (pm_I (nI p)), some (pm_I (nI 0))] [] g σ₁ τ 0 0 0 0 E := by
  refine pm_for 8 (fun j σ₂ => pm_Y b d km_S_reckon 48 true [some (pm_R 32), some (pm_I (nI p)), some (pm_I (nI j))] [] g σ₂ τ 0 0 0 0 E) (rc_row σ₁ p) (fun j σ₂ hj hI ih => ?_) (fun σ₂ hI => ?_) 8 0 σ₁ rfl ⟨fun q hq => absurd hq (Nat.not_lt_zero q), fun _ _ _ => rfl⟩
  · refine pm_iload_n d_S_reckon_48 rfl ?_
    refine pm_bipush' (nI 8) d_S_reckon_49 (by decide) ?_
    refine pm_icmp_ge_f 69 d_S_reckon_51 rfl (by rw [nI_leI (by omega) (by omega)]; omega) ?_
    refine pm_aload_n d_S_reckon_54 rfl ?_
    refine pm_getr d_S_reckon_55 hf_S_20 (hg.s rfl) (hg.i (by decide)) rfl (hg.r (by decide) rfl) ?_
    refine pm_iload_n d_S_reckon_58 rfl ?_
    refine pm_aaload p d_S_reckon_59 (hg.s rfl) (hg.i (by decide)) rfl hp (by decide) (hg.r (by decide) (sr_35 hp)) ?_
    refine pm_iload_n d_S_reckon_60 rfl ?_
    refine pm_iconst' (nI 0) d_S_reckon_61 (by decide) ?_
    refine pm_iastore j d_S_reckon_62 (hg.s (sh_36 _ hp)) (hg.i (by have := (hp : p < 8); omega)) rfl hj (by decide) ?_
    refine pm_iinc' (nI (j + 1)) d_S_reckon_63 (by decide) rfl (pm_inc _) ?_
    refine pm_goto 48 d_S_reckon_66 rfl ?_
    -- at 48: lo=[some (pm_R 32), some (pm_I (nI p)), some (pm_I (nI (j + 1)))] st=[]
    exact ih _ ⟨fun q hq => by
      by_cases e : q = j
      · subst e; rw [pm_up_at]
      · rw [pm_up_ne (by omega)]; exact hI.1 q (by omega), fun c x hc => by rw [pm_up_ne (by omega)]; exact hI.2 c x hc⟩
  · refine pm_iload_n d_S_reckon_48 rfl ?_
    refine pm_bipush' (nI 8) d_S_reckon_49 (by decide) ?_
    refine pm_icmp_ge_t 69 d_S_reckon_51 rfl (by decide) ?_
    exact K σ₂ hI
theorem rc_step {σ₀ σ₂ σ₃ : pI} (h : rc_I ch σ₀ p σ₂) (hr : rc_row (pm_up σ₂ 33 p (-1)) p 8 σ₃) (hp : p < 8) : rc_I ch σ₀ (p + 1) σ₃ := by
  obtain ⟨h1, h2, h3, h4⟩ := h
  obtain ⟨r1, r2⟩ := hr
  refine ⟨by rw [r2 32 4 (by omega), pm_up_ne (by omega)]; exact h1, by rw [r2 32 5 (by omega), pm_up_ne (by omega)]; exact h2, fun a ha => ?_, fun c x hc => by rw [r2 c x (by omega), pm_up_ne (by omega)]; exact h4 c x hc⟩
  by_cases e : a = p
  · subst e
    exact ⟨by rw [r2 33 a (by omega), pm_up_at], r1⟩
  · refine ⟨by rw [r2 33 a (by omega), pm_up_ne (by omega)]; exact (h3 a (by omega)).1, fun q hq => ?_⟩
    rw [r2 (36 + a) q (by omega), pm_up_ne (by omega)]
    exact (h3 a (by omega)).2 q hq
theorem rc_A {σ₀ σ₂ : pI} (h : rc_I ch σ₀ 8 σ₂) : ci_A n A0_ σ₂ := ⟨h.1, fun p q hp hq => (h.2.2.1 p hp).2 q hq, fun z => absurd z (Nat.lt_irrefl 0)⟩
theorem rc_T {σ₀ σ₂ : pI} (h : rc_I ch σ₀ 8 σ₂) : ci_T 33 (fun _ => none) σ₂ := fun a ha => (h.2.2.1 a ha).1
theorem rc_end {σ₀ σ₂ σ₃ : pI} (hw : rh_wf n L) (h : rc_I ch σ₀ 8 σ₂) (hA : ci_A n (cs_search n L (rh_rk L) n 0 (fun _ => none) A0_) σ₃) (hf : st_fr σ₂ σ₃) : sp_ n ch L σ₀ σ₃ := by
  rw [SA_cs hw] at hA
  exact ⟨hA, by rw [hf 32 5 (by omega) (by omega) (by omega) (by omega)]; exact h.2.1, fun c x hc => by rw [hf c x (by omega) (by omega) (by omega) (by omega)]; exact h.2.2.2 c x hc⟩
theorem l_S_reckon_33 (hg : pm_gok 48 g) (hB : pm_base b) (hw : rh_wf n L) (hE : env_ n L σ) {σ₁ : pI} (h0 : rc_I ch σ 0 σ₁) (l2 : Option pV) : pm_Y b (d + 19 + 1) km_S_reckon 33 true [some (pm_R 32), some (pm_I (nI 0)), l2] [] g σ₁ τ 0 0 0 0 (pm_Wp (fun v σ' => v = none ∧ sp_ n ch L σ σ') τ) := by
  have h8 := hw.1
  have hbd : A0_.1 + 9 ^ n ≤ 43046721 := by
    have h2 : 9 ^ n ≤ 9 ^ 8 := Nat.pow_le_pow_right (by decide) hw.1
    have h3 : (9 : Nat) ^ 8 = 43046721 := by decide
    have h4 : A0_.1 = 0 := rfl
    omega
  refine pm_for 8 (fun p σ₂ => ∀ l2 : Option pV, pm_Y b (d + 19 + 1) km_S_reckon 33 true [some (pm_R 32), some (pm_I (nI p)), l2] [] g σ₂ τ 0 0 0 0 (pm_Wp (fun v σ' => v = none ∧ sp_ n ch L σ σ') τ)) (rc_I ch σ) (fun p σ₂ hp hI ih l2 => ?_) (fun σ₂ hI l2 => ?_) 8 0 σ₁ rfl h0 l2
  · refine pm_iload_n d_S_reckon_33 rfl ?_
    refine pm_bipush' (nI 8) d_S_reckon_34 (by decide) ?_
    refine pm_icmp_ge_f 75 d_S_reckon_36 rfl (by rw [nI_leI (by omega) (by omega)]; omega) ?_
    refine pm_aload_n d_S_reckon_39 rfl ?_
    refine pm_getr d_S_reckon_40 hf_S_9 (hg.s rfl) (hg.i (by decide)) rfl (hg.r (by decide) rfl) ?_
    refine pm_iload_n d_S_reckon_43 rfl ?_
    refine pm_iconst' (-1) d_S_reckon_44 (by decide) ?_
    refine pm_iastore p d_S_reckon_45 (hg.s rfl) (hg.i (by decide)) rfl hp (by decide) ?_
    refine pm_iconst' (nI 0) d_S_reckon_46 (by decide) ?_
    refine pm_istore_n d_S_reckon_47 (by decide) ?_
    -- at 48: lo=[some (pm_R 32), some (pm_I (nI p)), some (pm_I (nI 0))] st=[]
    refine l_S_reckon_48 hg hp (fun σ₃ hr => ?_)
    refine pm_iinc' (nI (p + 1)) d_S_reckon_69 (by decide) rfl (pm_inc _) ?_
    refine pm_goto 33 d_S_reckon_72 rfl ?_
    -- at 33: lo=[some (pm_R 32), some (pm_I (nI (p + 1))), some (pm_I (nI 8))] st=[]
    exact ih _ (rc_step hI hr hp) _
  · refine pm_iload_n d_S_reckon_33 rfl ?_
    refine pm_bipush' (nI 8) d_S_reckon_34 (by decide) ?_
    refine pm_icmp_ge_t 75 d_S_reckon_36 rfl (by decide) ?_
    refine pm_aload_n d_S_reckon_75 rfl ?_
    refine pm_iconst' (nI 0) d_S_reckon_76 (by decide) ?_
    refine pm_callWp (i := 32) (ci := 3) (rest := []) [pm_I (nI 0)] hB d_S_reckon_77 hc_S_51 (pm_C_up (show 0 + 2 * n + 3 ≤ d + 19 by omega) (k_S_search hg hB hw n 0 (fun _ => none) A0_ _ (Nat.zero_add n) (env_of hE hI.2.2.2.lo) (rc_T hI) (rc_A hI) ⟨fun a ha => absurd ha (Nat.not_lt_zero a), fun a c hc => by cases hc⟩ hbd)) (hg.s rfl) (hg.i (by decide)) rfl rfl rfl rfl (Nat.le_of_ble_eq_true rfl) (Nat.le_of_ble_eq_true rfl) (by omega) (by omega) (fun v77 σ₃ hv77 hq77 => ?_)
    obtain ⟨rfl, hT3, hA3, hf3⟩ := hq77
    show pm_Y b _ km_S_reckon 80 true [some (pm_R 32), some (pm_I (nI 8)), l2] [] g σ₃ τ 0 0 0 0 _
    exact pm_return d_S_reckon_80 rfl (fun _ => rfl) (Nat.le_refl _) (Nat.le_refl _) ⟨⟨rfl, rc_end hw hI hA3 hf3⟩, rfl⟩
theorem k_S_reckon (hg : pm_gok 48 g) (hB : pm_base b) (hw : rh_wf n L) (hE : env_ n L σ) (hch : σ 1 5 = nI ch) (hc : ch < 2 ^ 31) (hs : sc_ n ch L σ) : pm_C b (d + 20) km_S_reckon [pm_R 32] g σ τ 0 0 (pm_Wp (fun v σ' => v = none ∧ sp_ n ch L σ σ') τ) := by
  show pm_Y b (d + 19 + 1) km_S_reckon 0 false [some (pm_R 32), none, none] [] g σ τ 0 0 0 0 _
  obtain ⟨r, hr, hle, hok⟩ := hs
  by_cases e : r = some ch
  · subst e
    have hok := hok rfl
    have hr : σ 32 5 = nI ch := hr
    refine pm_aload_n d_S_reckon_0 rfl ?_
    refine pm_geti' (nI ch) d_S_reckon_1 hf_S_23 (hg.s rfl) (hg.i (by decide)) rfl hr ?_
    refine pm_aload_n d_S_reckon_4 rfl ?_
    refine pm_getr d_S_reckon_5 hf_S_27 (hg.s rfl) (hg.i (by decide)) rfl (hg.r (by decide) rfl) ?_
    refine pm_callR (i := 1) (ci := 1) (rest := [pm_I (nI ch)]) [] hB d_S_reckon_8 hc_S_47 (k_W_changes hg hch) (hg.s rfl) (hg.i (by decide)) rfl rfl rfl rfl (Nat.le_of_ble_eq_true rfl) (Nat.le_of_ble_eq_true rfl) (by omega) (by omega) ?_
    refine pm_icmp_ne_f 15 d_S_reckon_11 rfl rfl ?_
    exact pm_return d_S_reckon_14 rfl (fun _ => rfl) (Nat.le_refl _) (Nat.le_refl _) ⟨⟨rfl, hok, hr, fun _ _ _ => rfl⟩, rfl⟩
  · have hne : ¬ σ 32 5 = nI ch := by
      rw [hr]
      cases r with
      | none => exact fun z => nI_m1 hc z.symm
      | some x =>
        intro z
        have hx := hle x rfl
        exact e (by rw [(nI_eq (by omega) hc).mp z])
    refine pm_aload_n d_S_reckon_0 rfl ?_
    refine pm_geti d_S_reckon_1 hf_S_23 (hg.s rfl) (hg.i (by decide)) rfl ?_
    refine pm_aload_n d_S_reckon_4 rfl ?_
    refine pm_getr d_S_reckon_5 hf_S_27 (hg.s rfl) (hg.i (by decide)) rfl (hg.r (by decide) rfl) ?_
    refine pm_callR (i := 1) (ci := 1) (rest := [pm_I (σ 32 5)]) [] hB d_S_reckon_8 hc_S_47 (k_W_changes hg hch) (hg.s rfl) (hg.i (by decide)) rfl rfl rfl rfl (Nat.le_of_ble_eq_true rfl) (Nat.le_of_ble_eq_true rfl) (by omega) (by omega) ?_
    refine pm_icmp_ne_t 15 d_S_reckon_11 rfl hne ?_
    refine pm_aload_n d_S_reckon_15 rfl ?_
    refine pm_aload_n d_S_reckon_16 rfl ?_
    refine pm_getr d_S_reckon_17 hf_S_27 (hg.s rfl) (hg.i (by decide)) rfl (hg.r (by decide) rfl) ?_
    refine pm_callR (i := 1) (ci := 1) (rest := [pm_R 32]) [] hB d_S_reckon_20 hc_S_47 (k_W_changes hg hch) (hg.s rfl) (hg.i (by decide)) rfl rfl rfl rfl (Nat.le_of_ble_eq_true rfl) (Nat.le_of_ble_eq_true rfl) (by omega) (by omega) ?_
    refine pm_puti d_S_reckon_23 hp_S_23 (hg.s rfl) (hg.i (by decide)) rfl ?_
    refine pm_aload_n d_S_reckon_26 rfl ?_
    refine pm_iconst' (nI 0) d_S_reckon_27 (by decide) ?_
    refine pm_puti d_S_reckon_28 hp_S_34 (hg.s rfl) (hg.i (by decide)) rfl ?_
    refine pm_iconst' (nI 0) d_S_reckon_31 (by decide) ?_
    refine pm_istore_n d_S_reckon_32 (by decide) ?_
    -- at 33: lo=[some (pm_R 32), some (pm_I (nI 0)), none] st=[]
    exact l_S_reckon_33 hg hB hw hE ⟨pm_up_at, by rw [pm_up_ne (by omega), pm_up_at], fun p hp => absurd hp (Nat.not_lt_zero p), fun c x hc => by rw [pm_up_ne (by omega), pm_up_ne (by omega)]⟩ none
theorem k_S_howMany (hg : pm_gok 48 g) (hB : pm_base b) (hw : rh_wf n L) (hE : env_ n L σ) (hch : σ 1 5 = nI ch) (hc : ch < 2 ^ 31) (hs : sc_ n ch L σ) : pm_C b (d + 21) km_S_howMany [pm_R 32] g σ τ 0 0 (pm_Wp (fun v σ' => v = some (nI (SA_ n L).1) ∧ sp_ n ch L σ σ') τ) := by
  have h8 := hw.1
  show pm_Y b (d + 20 + 1) km_S_howMany 0 false [some (pm_R 32)] [] g σ τ 0 0 0 0 _
  refine pm_aload_n d_S_howMany_0 rfl ?_
  refine pm_callWp (i := 32) (ci := 3) (rest := []) [] hB d_S_howMany_1 hc_S_31 (k_S_reckon hg hB hw hE hch hc hs) (hg.s rfl) (hg.i (by decide)) rfl rfl rfl rfl (Nat.le_of_ble_eq_true rfl) (Nat.le_of_ble_eq_true rfl) (by omega) (by omega) (fun v1 σ₁ hv1 hq1 => ?_)
  obtain ⟨rfl, hp1⟩ := hq1
  show pm_Y b _ km_S_howMany 4 true [some (pm_R 32)] [] g σ₁ τ 0 0 0 0 _
  refine pm_aload_n d_S_howMany_4 rfl ?_
  refine pm_geti' (nI ((SA_ n L).1)) d_S_howMany_5 hf_S_34 (hg.s rfl) (hg.i (by decide)) rfl hp1.1.1 ?_
  exact pm_ireturn d_S_howMany_8 rfl (fun _ => rfl) (Nat.le_refl _) (Nat.le_refl _) ⟨⟨rfl, hp1⟩, rfl⟩
theorem k_S_howOften (hg : pm_gok 48 g) (hB : pm_base b) (hw : rh_wf n L) (hE : env_ n L σ) (hch : σ 1 5 = nI ch) (hc : ch < 2 ^ 31) (hs : sc_ n ch L σ) (hp : p < 8) (hq : q < 8) : pm_C b (d + 21) km_S_howOften [pm_R 32, pm_I (nI p), pm_I (nI q)] g σ τ 0 0 (pm_Wp (fun v σ' => v = some (nI ((SA_ n L).2.1 p q)) ∧ sp_ n ch L σ σ') τ) := by
  have h8 := hw.1
  show pm_Y b (d + 20 + 1) km_S_howOften 0 false [some (pm_R 32), some (pm_I (nI p)), some (pm_I (nI q))] [] g σ τ 0 0 0 0 _
  refine pm_aload_n d_S_howOften_0 rfl ?_
  refine pm_callWp (i := 32) (ci := 3) (rest := []) [] hB d_S_howOften_1 hc_S_31 (k_S_reckon hg hB hw hE hch hc hs) (hg.s rfl) (hg.i (by decide)) rfl rfl rfl rfl (Nat.le_of_ble_eq_true rfl) (Nat.le_of_ble_eq_true rfl) (by omega) (by omega) (fun v1 σ₁ hv1 hq1 => ?_)
  obtain ⟨rfl, hp1⟩ := hq1
  show pm_Y b _ km_S_howOften 4 true [some (pm_R 32), some (pm_I (nI p)), some (pm_I (nI q))] [] g σ₁ τ 0 0 0 0 _
  refine pm_aload_n d_S_howOften_4 rfl ?_
  refine pm_getr d_S_howOften_5 hf_S_20 (hg.s rfl) (hg.i (by decide)) rfl (hg.r (by decide) rfl) ?_
  refine pm_iload_n d_S_howOften_8 rfl ?_
  refine pm_aaload p d_S_howOften_9 (hg.s rfl) (hg.i (by decide)) rfl hp (by decide) (hg.r (by decide) (sr_35 hp)) ?_
  refine pm_iload_n d_S_howOften_10 rfl ?_
  refine pm_iaload' q (nI ((SA_ n L).2.1 p q)) d_S_howOften_11 (hg.s (sh_36 _ hp)) (hg.i (by have := (hp : p < 8); omega)) rfl hq (by decide) (hp1.1.2.1 p q hp hq) ?_
  exact pm_ireturn d_S_howOften_12 rfl (fun _ => rfl) (Nat.le_refl _) (Nat.le_refl _) ⟨⟨rfl, hp1⟩, rfl⟩
theorem k_S_mateInFirst (hg : pm_gok 48 g) (hB : pm_base b) (hw : rh_wf n L) (hE : env_ n L σ) (hch : σ 1 5 = nI ch) (hc : ch < 2 ^ 31) (hs : sc_ n ch L σ) (hp : p < n) : pm_C b (d + 21) km_S_mateInFirst [pm_R 32, pm_I (nI p)] g σ τ 0 0 (pm_Wp (fun v σ' => v = some (if (SA_ n L).1 = 0 then -1 else nI ((SA_ n L).2.2 p)) ∧ sp_ n ch L σ σ') τ) := by
  have h8 := hw.1
  have hle := SA_le hw
  show pm_Y b (d + 20 + 1) km_S_mateInFirst 0 false [some (pm_R 32), some (pm_I (nI p))] [] g σ τ 0 0 0 0 _
  refine pm_aload_n d_S_mateInFirst_0 rfl ?_
  refine pm_callWp (i := 32) (ci := 3) (rest := []) [] hB d_S_mateInFirst_1 hc_S_31 (k_S_reckon hg hB hw hE hch hc hs) (hg.s rfl) (hg.i (by decide)) rfl rfl rfl rfl (Nat.le_of_ble_eq_true rfl) (Nat.le_of_ble_eq_true rfl) (by omega) (by omega) (fun v1 σ₁ hv1 hq1 => ?_)
  obtain ⟨rfl, hp1⟩ := hq1
  show pm_Y b _ km_S_mateInFirst 4 true [some (pm_R 32), some (pm_I (nI p))] [] g σ₁ τ 0 0 0 0 _
  refine pm_aload_n d_S_mateInFirst_4 rfl ?_
  refine pm_geti' (nI ((SA_ n L).1)) d_S_mateInFirst_5 hf_S_34 (hg.s rfl) (hg.i (by decide)) rfl hp1.1.1 ?_
  by_cases z : (SA_ n L).1 = 0
  · have z9 : nI (SA_ n L).1 = 0 := by rw [z]; rfl
    refine pm_if_ne_f 15 d_S_mateInFirst_8 rfl z9 ?_
    refine pm_iconst' (-1) d_S_mateInFirst_11 (by decide) ?_
    refine pm_goto 21 d_S_mateInFirst_12 rfl ?_
    exact pm_ireturn d_S_mateInFirst_21 rfl (fun _ => rfl) (Nat.le_refl _) (Nat.le_refl _) ⟨⟨by rw [if_pos z], hp1⟩, rfl⟩
  · have z9 : ¬ nI (SA_ n L).1 = 0 := nI_ne0 (by omega) (by omega)
    refine pm_if_ne_t 15 d_S_mateInFirst_8 rfl z9 ?_
    refine pm_aload_n d_S_mateInFirst_15 rfl ?_
    refine pm_getr d_S_mateInFirst_16 hf_S_15 (hg.s rfl) (hg.i (by decide)) rfl (hg.r (by decide) rfl) ?_
    refine pm_iload_n d_S_mateInFirst_19 rfl ?_
    refine pm_iaload' p (nI ((SA_ n L).2.2 p)) d_S_mateInFirst_20 (hg.s rfl) (hg.i (by decide)) rfl (by omega) (by decide) (hp1.1.2.2 (by omega) p hp) ?_
    exact pm_ireturn d_S_mateInFirst_21 rfl (fun _ => rfl) (Nat.le_refl _) (Nat.le_refl _) ⟨⟨by rw [if_neg z], hp1⟩, rfl⟩
end S3
end
section
/-! the best and the worst one -/
/-- the first of l with a count -/
def ff_ (f : Nat → Nat) (l : List Nat) : Option Nat := l.find? fun q => decide (0 < f q)
noncomputable def best_ (n : Nat) (L : Nat → List Nat) (p : Nat) : Option Nat := ff_ ((SA_ n L).2.1 p) (L p ++ [p])
noncomputable def worst_ (n : Nat) (L : Nat → List Nat) (p : Nat) : Option Nat := ff_ ((SA_ n L).2.1 p) (L p ++ [p]).reverse
theorem SA_pos {n : Nat} {L : Nat → List Nat} {p : Nat} (hp : p < n) (q : Nat) : 0 < (SA_ n L).2.1 p q ↔ ∃ m, m ∈ (rh_ext L n []).filter (rh_sm n L) ∧ m.getD p 0 = q := by
  unfold SA_
  rw [rh_fold_two hp]
  constructor
  · rintro (h | h)
    · exact absurd h (Nat.lt_irrefl 0)
    · exact h
  · exact Or.inr
theorem SA_one {n : Nat} {L : Nat → List Nat} : (SA_ n L).1 = ((rh_ext L n []).filter (rh_sm n L)).length := by
  unfold SA_
  rw [rh_fold_one]
  exact Nat.zero_add _
theorem SA_none {n : Nat} {L : Nat → List Nat} {p : Nat} (hp : p < n) (h : (SA_ n L).1 = 0) (q : Nat) : ¬ 0 < (SA_ n L).2.1 p q := by
  rw [SA_one, List.length_eq_zero_iff] at h
  rw [SA_pos hp, h]
  rintro ⟨m, hm, -⟩
  cases hm
theorem SA_some {n : Nat} {L : Nat → List Nat} (hw : rh_wf n L) {p : Nat} (hp : p < n) (h : (SA_ n L).1 ≠ 0) : ∃ q, q ∈ L p ++ [p] ∧ 0 < (SA_ n L).2.1 p q := by
  rw [SA_one] at h
  cases hl : (rh_ext L n []).filter (rh_sm n L) with
  | nil => rw [hl] at h; exact absurd rfl h
  | cons m t =>
    have hm : m ∈ (rh_ext L n []).filter (rh_sm n L) := by rw [hl]; exact List.mem_cons_self
    have hs := rh_sm_iff.mp (List.mem_filter.mp hm).2
    refine ⟨m.getD p 0, ?_, (SA_pos hp _).mpr ⟨m, hm, rfl⟩⟩
    rcases (rh_rk_le hw hp).mp (hs.1 p hp).1 with e | e
    · exact List.mem_append_right _ (List.mem_singleton.mpr e.symm)
    · exact List.mem_append_left _ e.1
theorem ff_none {f : Nat → Nat} {l : List Nat} (h : ∀ q, q ∈ l → ¬ 0 < f q) : ff_ f l = none := by
  unfold ff_
  rw [List.find?_eq_none]
  intro q hq
  rw [decide_eq_true_eq]
  exact h q hq
theorem ff_app {f : Nat → Nat} {l l' : List Nat} {q : Nat} (h : ∀ x, x ∈ l → ¬ 0 < f x) (hq : 0 < f q) : ff_ f (l ++ q :: l') = some q := by
  unfold ff_
  rw [List.find?_append, List.find?_eq_none.mpr (fun x hx => by rw [decide_eq_true_eq]; exact h x hx), List.find?_cons_of_pos (by rw [decide_eq_true_eq]; exact hq)]
  rfl
theorem ff_first {f : Nat → Nat} {l r : List Nat} {i : Nat} (hi : i < l.length) (h : ∀ j, j < i → ¬ 0 < f (l.getD j 0)) (hq : 0 < f (l.getD i 0)) : ff_ f (l ++ r) = some (l.getD i 0) := by
  have e : l = l.take i ++ l.getD i 0 :: l.drop (i + 1) := by
    have h1 : l.getD i 0 = l[i] := by rw [List.getD_eq_getElem?_getD, List.getElem?_eq_getElem hi]; rfl
    rw [h1, ← List.drop_eq_getElem_cons hi, List.take_append_drop]
  have e2 : l ++ r = l.take i ++ l.getD i 0 :: (l.drop (i + 1) ++ r) := by
    conv => lhs; rw [e]
    rw [List.append_assoc, List.cons_append]
  rw [e2]
  refine ff_app (fun x hx => ?_) hq
  obtain ⟨j, hj, ej⟩ := (mem_get _ _).mp hx
  rw [List.length_take] at hj
  have : (l.take i).getD j 0 = l.getD j 0 := by
    rw [List.getD_eq_getElem?_getD, List.getD_eq_getElem?_getD, List.getElem?_take, if_pos (by omega)]
  rw [← ej, this]
  exact h j (by omega)
theorem ff_last {f : Nat → Nat} {l : List Nat} {i : Nat} (hi : i < l.length) (h : ∀ j, i < j → j < l.length → ¬ 0 < f (l.getD j 0)) (hq : 0 < f (l.getD i 0)) : ff_ f l.reverse = some (l.getD i 0) := by
  have hr : ∀ j, j < l.length → l.reverse.getD j 0 = l.getD (l.length - 1 - j) 0 := fun j hj => by
    rw [List.getD_eq_getElem?_getD, List.getD_eq_getElem?_getD, List.getElem?_reverse hj]
  have h1 := ff_first (f := f) (l := l.reverse) (r := []) (i := l.length - 1 - i) (by rw [List.length_reverse]; omega) (fun j hj => by
    rw [hr j (by omega)]
    exact h _ (by omega) (by omega)) (by rw [hr _ (by omega), show l.length - 1 - (l.length - 1 - i) = i by omega]; exact hq)
  rw [List.append_nil, hr _ (by omega), show l.length - 1 - (l.length - 1 - i) = i by omega] at h1
  exact h1
section S4
variable {b : pB} {g : pG} {σ : pI} {τ : pJ} {d p q n ch : Nat} {L : Nat → List Nat}
theorem SA_cnt (hw : rh_wf n L) (hp : p < n) : (SA_ n L).2.1 p q ≤ 43046721 := by
  have h : ∀ (l : List (List Nat)) (A : rh_A), (rh_fold n A l).2.1 p q ≤ A.2.1 p q + l.length := by
    intro l
    induction l with
    | nil => intro A; exact Nat.le_refl _
    | cons m t ih =>
      intro A
      have h1 := ih (rh_acc n A fun p => m.getD p 0)
      have h2 : (rh_acc n A fun p => m.getD p 0).2.1 p q ≤ A.2.1 p q + 1 := by
        show (if p < n ∧ m.getD p 0 = q then A.2.1 p q + 1 else A.2.1 p q) ≤ _
        split <;> omega
      show (rh_fold n (rh_acc n A fun p => m.getD p 0) t).2.1 p q ≤ _
      rw [List.length_cons]
      omega
  have h1 := h ((rh_ext L n []).filter (rh_sm n L)) A0_
  have h2 := SA_le hw
  rw [SA_one] at h2
  have h3 : A0_.2.1 p q = 0 := rfl
  unfold SA_
  omega
theorem cnt_le {x : Nat} (hx : x ≤ 43046721) : nI x ≤ 0 ↔ ¬ 0 < x := by
  rw [show (0 : Int32) = nI 0 from rfl, nI_leI (by omega) (by omega)]
  omega
theorem k_S_bestMate (hg : pm_gok 48 g) (hB : pm_base b) (hw : rh_wf n L) (hE : env_ n L σ) (hch : σ 1 5 = nI ch) (hc : ch < 2 ^ 31) (hs : sc_ n ch L σ) (hp : p < n) : pm_C b (d + 21) km_S_bestMate [pm_R 32, pm_I (nI p)] g σ τ 0 0 (pm_Wp (fun v σ' => v = some (oI (best_ n L p)) ∧ sp_ n ch L σ σ') τ) := by
  have h8 := hw.1
  have hp8 : p < 8 := by omega
  have hl7 := wf_l hw hp
  have hlb := wf_b hw hp
  have hle := SA_le hw
  show pm_Y b (d + 20 + 1) km_S_bestMate 0 false [some (pm_R 32), some (pm_I (nI p)), none, none] [] g σ τ 0 0 0 0 _
  refine pm_aload_n d_S_bestMate_0 rfl ?_
  refine pm_callWp (i := 32) (ci := 3) (rest := []) [] hB d_S_bestMate_1 hc_S_31 (k_S_reckon hg hB hw hE hch hc hs) (hg.s rfl) (hg.i (by decide)) rfl rfl rfl rfl (Nat.le_of_ble_eq_true rfl) (Nat.le_of_ble_eq_true rfl) (by omega) (by omega) (fun v1 σ₁ hv1 hq1 => ?_)
  obtain ⟨rfl, hp1⟩ := hq1
  show pm_Y b _ km_S_bestMate 4 true [some (pm_R 32), some (pm_I (nI p)), none, none] [] g σ₁ τ 0 0 0 0 _
  refine pm_iconst' (nI 0) d_S_bestMate_4 (by decide) ?_
  refine pm_istore_n d_S_bestMate_5 (by decide) ?_
  -- at 6: lo=[some (pm_R 32), some (pm_I (nI p)), some (pm_I (nI 0)), none] st=[]
  have hE1 : env_ n L σ₁ := env_of hE hp1.2.2.lo
  refine pm_for (L p).length (fun i (_ : Unit) => ∀ l3 : Option pV, pm_Y b (d + 20 + 1) km_S_bestMate 6 true [some (pm_R 32), some (pm_I (nI p)), some (pm_I (nI i)), l3] [] g σ₁ τ 0 0 0 0 (pm_Wp (fun v σ' => v = some (oI (best_ n L p)) ∧ sp_ n ch L σ σ') τ)) (fun i _ => ∀ j, j < i → ¬ 0 < (SA_ n L).2.1 p ((L p).getD j 0)) (fun i _ hi hI ih l3 => ?_) (fun _ hI l3 => ?_) (L p).length 0 () (by omega) (fun j hj => absurd hj (Nat.not_lt_zero j)) none
  · skip
    refine pm_iload_n d_S_bestMate_6 rfl ?_
    refine pm_aload_n d_S_bestMate_7 rfl ?_
    refine pm_getr d_S_bestMate_8 hf_S_27 (hg.s rfl) (hg.i (by decide)) rfl (hg.r (by decide) rfl) ?_
    refine pm_iload_n d_S_bestMate_11 rfl ?_
    refine pm_callR (i := 1) (ci := 1) (rest := [pm_I (nI i)]) [pm_I (nI p)] hB d_S_bestMate_12 hc_S_37 (k_W_length hg hE1.2.1 hp8) (hg.s rfl) (hg.i (by decide)) rfl rfl rfl rfl (Nat.le_of_ble_eq_true rfl) (Nat.le_of_ble_eq_true rfl) (by omega) (by omega) ?_
    refine pm_icmp_ge_f 47 d_S_bestMate_15 rfl (by rw [nI_leI (by omega) (by omega)]; omega) ?_
    refine pm_aload_n d_S_bestMate_18 rfl ?_
    refine pm_getr d_S_bestMate_19 hf_S_27 (hg.s rfl) (hg.i (by decide)) rfl (hg.r (by decide) rfl) ?_
    refine pm_iload_n d_S_bestMate_22 rfl ?_
    refine pm_iload_n d_S_bestMate_23 rfl ?_
    refine pm_callR (i := 1) (ci := 1) (rest := []) [pm_I (nI p), pm_I (nI i)] hB d_S_bestMate_24 hc_S_43 (k_W_otherAt hg hE1.2.1 hp8 hi (by omega)) (hg.s rfl) (hg.i (by decide)) rfl rfl rfl rfl (Nat.le_of_ble_eq_true rfl) (Nat.le_of_ble_eq_true rfl) (by omega) (by omega) ?_
    refine pm_istore_n d_S_bestMate_27 (by decide) ?_
    refine pm_aload_n d_S_bestMate_28 rfl ?_
    refine pm_getr d_S_bestMate_29 hf_S_20 (hg.s rfl) (hg.i (by decide)) rfl (hg.r (by decide) rfl) ?_
    refine pm_iload_n d_S_bestMate_32 rfl ?_
    refine pm_aaload p d_S_bestMate_33 (hg.s rfl) (hg.i (by decide)) rfl hp8 (by decide) (hg.r (by decide) (sr_35 hp8)) ?_
    refine pm_iload_n d_S_bestMate_34 rfl ?_
    refine pm_iaload' ((L p).getD i 0) (nI ((SA_ n L).2.1 p ((L p).getD i 0))) d_S_bestMate_35 (hg.s (sh_36 _ hp8)) (hg.i (by have := (hp8 : p < 8); omega)) rfl (hlb i) (by decide) (hp1.1.2.1 p _ hp8 (hlb i)) ?_
    refine pm_if_le 41 d_S_bestMate_36 rfl (fun c36 => ?_) (fun c36 => ?_)
    · refine pm_iinc' (nI (i + 1)) d_S_bestMate_41 (by decide) rfl (pm_inc _) ?_
      refine pm_goto 6 d_S_bestMate_44 rfl ?_
      -- at 6: lo=[some (pm_R 32), some (pm_I (nI p)), some (pm_I (nI (i + 1))), some (pm_I (nI ((L p).getD i 0)))] st=[]
      exact ih () (fun j hj => by
        by_cases e : j = i
        · rw [e]; exact (cnt_le (SA_cnt hw hp)).mp c36
        · exact hI j (by omega)) _
    · refine pm_iload_n d_S_bestMate_39 rfl ?_
      exact pm_ireturn d_S_bestMate_40 rfl (fun _ => rfl) (Nat.le_refl _) (Nat.le_refl _) ⟨⟨by unfold best_; rw [ff_first hi hI (Classical.byContradiction fun z => c36 ((cnt_le (SA_cnt hw hp)).mpr z))]; rfl, hp1⟩, rfl⟩
  · skip
    refine pm_iload_n d_S_bestMate_6 rfl ?_
    refine pm_aload_n d_S_bestMate_7 rfl ?_
    refine pm_getr d_S_bestMate_8 hf_S_27 (hg.s rfl) (hg.i (by decide)) rfl (hg.r (by decide) rfl) ?_
    refine pm_iload_n d_S_bestMate_11 rfl ?_
    refine pm_callR (i := 1) (ci := 1) (rest := [pm_I (nI (L p).length)]) [pm_I (nI p)] hB d_S_bestMate_12 hc_S_37 (k_W_length hg hE1.2.1 hp8) (hg.s rfl) (hg.i (by decide)) rfl rfl rfl rfl (Nat.le_of_ble_eq_true rfl) (Nat.le_of_ble_eq_true rfl) (by omega) (by omega) ?_
    refine pm_icmp_ge_t 47 d_S_bestMate_15 rfl (by rw [nI_leI (by omega) (by omega)]; omega) ?_
    have hno : ∀ q, q ∈ L p → ¬ 0 < (SA_ n L).2.1 p q := fun q hq => by
      obtain ⟨j, hj, e⟩ := (mem_get _ _).mp hq
      rw [← e]; exact hI j hj
    by_cases z : (SA_ n L).1 = 0
    · have z9 : nI (SA_ n L).1 = 0 := by rw [z]; rfl
      refine pm_aload_n d_S_bestMate_47 rfl ?_
      refine pm_geti' (nI ((SA_ n L).1)) d_S_bestMate_48 hf_S_34 (hg.s rfl) (hg.i (by decide)) rfl hp1.1.1 ?_
      refine pm_if_ne_f 58 d_S_bestMate_51 rfl z9 ?_
      refine pm_iconst' (-1) d_S_bestMate_54 (by decide) ?_
      refine pm_goto 59 d_S_bestMate_55 rfl ?_
      exact pm_ireturn d_S_bestMate_59 rfl (fun _ => rfl) (Nat.le_refl _) (Nat.le_refl _) ⟨⟨by unfold best_; rw [ff_none (fun q _ => SA_none hp z q)]; rfl, hp1⟩, rfl⟩
    · have z9 : ¬ nI (SA_ n L).1 = 0 := nI_ne0 (by omega) (by omega)
      have hpp : 0 < (SA_ n L).2.1 p p := by
        obtain ⟨q, h1, h2⟩ := SA_some hw hp z
        rcases List.mem_append.mp h1 with h1 | h1
        · exact absurd h2 (hno q h1)
        · rw [List.mem_singleton.mp h1] at h2; exact h2
      refine pm_aload_n d_S_bestMate_47 rfl ?_
      refine pm_geti' (nI ((SA_ n L).1)) d_S_bestMate_48 hf_S_34 (hg.s rfl) (hg.i (by decide)) rfl hp1.1.1 ?_
      refine pm_if_ne_t 58 d_S_bestMate_51 rfl z9 ?_
      refine pm_iload_n d_S_bestMate_58 rfl ?_
      exact pm_ireturn d_S_bestMate_59 rfl (fun _ => rfl) (Nat.le_refl _) (Nat.le_refl _) ⟨⟨by unfold best_; rw [ff_app (l' := []) hno hpp]; rfl, hp1⟩, rfl⟩
theorem wl_get {l : List Nat} {p j : Nat} (h : j < l.length) : (l ++ [p]).getD j 0 = l.getD j 0 := by rw [rh_getD_app, if_neg (by omega)]
theorem wl_len {l : List Nat} {p : Nat} : (l ++ [p]).length = l.length + 1 := by rw [List.length_append, List.length_singleton]
theorem l_S_worst_28 (hg : pm_gok 48 g) (hB : pm_base b) (hw : rh_wf n L) (hE : env_ n L σ) (hp : p < n) {σ₁ : pI} (hp1 : sp_ n ch L σ σ₁) (hpp : ¬ 0 < (SA_ n L).2.1 p p) : ∀ (k : Nat), k ≤ (L p).length → (∀ j, k ≤ j → j < (L p).length → ¬ 0 < (SA_ n L).2.1 p ((L p).getD j 0)) → ∀ l3 : Option pV, pm_Y b (d + 20 + 1) km_S_worstMate 28 true [some (pm_R 32), some (pm_I (nI p)), some (pm_I (nI k + (-1))), l3] [] g σ₁ τ 0 0 0 0 (pm_Wp (fun v σ' => v = some (oI (worst_ n L p)) ∧ sp_ n ch L σ σ') τ)
  | 0, hk, hI, l3 => by
    have hno : ∀ q, q ∈ (L p ++ [p]).reverse → ¬ 0 < (SA_ n L).2.1 p q := fun q hq => by
      rw [List.mem_reverse] at hq
      rcases List.mem_append.mp hq with h1 | h1
      · obtain ⟨j, hj, e⟩ := (mem_get _ _).mp h1
        rw [← e]; exact hI j (Nat.zero_le _) hj
      · rw [List.mem_singleton.mp h1]; exact hpp
    refine pm_iload_n d_S_worstMate_28 rfl ?_
    refine pm_if_lt_t 61 d_S_worstMate_29 rfl (by decide) ?_
    refine pm_iconst' (-1) d_S_worstMate_61 (by decide) ?_
    exact pm_ireturn d_S_worstMate_62 rfl (fun _ => rfl) (Nat.le_refl _) (Nat.le_refl _) ⟨⟨by unfold worst_; rw [ff_none hno]; rfl, hp1⟩, rfl⟩
  | k + 1, hk, hI, l3 => by
    have hk : k < (L p).length := by omega
    have h8 := hw.1
    have hp8 : p < 8 := by omega
    have hl7 := wf_l hw hp
    have hlb := wf_b hw hp
    have hle := SA_le hw
    have hE1 : env_ n L σ₁ := env_of hE hp1.2.2.lo
    rw [pk_m1]
    refine pm_iload_n d_S_worstMate_28 rfl ?_
    refine pm_if_lt_f 61 d_S_worstMate_29 rfl (nI_pos (by omega)) ?_
    refine pm_aload_n d_S_worstMate_32 rfl ?_
    refine pm_getr d_S_worstMate_33 hf_S_27 (hg.s rfl) (hg.i (by decide)) rfl (hg.r (by decide) rfl) ?_
    refine pm_iload_n d_S_worstMate_36 rfl ?_
    refine pm_iload_n d_S_worstMate_37 rfl ?_
    refine pm_callR (i := 1) (ci := 1) (rest := []) [pm_I (nI p), pm_I (nI k)] hB d_S_worstMate_38 hc_S_43 (k_W_otherAt hg hE1.2.1 hp8 hk (by omega)) (hg.s rfl) (hg.i (by decide)) rfl rfl rfl rfl (Nat.le_of_ble_eq_true rfl) (Nat.le_of_ble_eq_true rfl) (by omega) (by omega) ?_
    refine pm_istore_n d_S_worstMate_41 (by decide) ?_
    refine pm_aload_n d_S_worstMate_42 rfl ?_
    refine pm_getr d_S_worstMate_43 hf_S_20 (hg.s rfl) (hg.i (by decide)) rfl (hg.r (by decide) rfl) ?_
    refine pm_iload_n d_S_worstMate_46 rfl ?_
    refine pm_aaload p d_S_worstMate_47 (hg.s rfl) (hg.i (by decide)) rfl hp8 (by decide) (hg.r (by decide) (sr_35 hp8)) ?_
    refine pm_iload_n d_S_worstMate_48 rfl ?_
    refine pm_iaload' ((L p).getD k 0) (nI ((SA_ n L).2.1 p ((L p).getD k 0))) d_S_worstMate_49 (hg.s (sh_36 _ hp8)) (hg.i (by have := (hp8 : p < 8); omega)) rfl (hlb k) (by decide) (hp1.1.2.1 p _ hp8 (hlb k)) ?_
    refine pm_if_le 55 d_S_worstMate_50 rfl (fun c50 => ?_) (fun c50 => ?_)
    · -- at 55: lo=[some (pm_R 32), some (pm_I (nI p)), some (pm_I (nI k)), some (pm_I (nI ((L p).getD k 0)))] st=[]
      refine pm_iinc' (nI k + (-1)) d_S_worstMate_55 (by decide) rfl rfl ?_
      refine pm_goto 28 d_S_worstMate_58 rfl ?_
      exact l_S_worst_28 hg hB hw hE hp hp1 hpp k (by omega) (fun j h1 h2 => by
        by_cases e : j = k
        · rw [e]; exact (cnt_le (SA_cnt hw hp)).mp c50
        · exact hI j (by omega) h2) _
    · refine pm_iload_n d_S_worstMate_53 rfl ?_
      exact pm_ireturn d_S_worstMate_54 rfl (fun _ => rfl) (Nat.le_refl _) (Nat.le_refl _) ⟨⟨by
        unfold worst_
        have h9 := ff_last (f := (SA_ n L).2.1 p) (l := L p ++ [p]) (i := k) (by rw [wl_len]; omega) (fun j h1 h2 => by
          rw [wl_len] at h2
          by_cases ej : j = (L p).length
          · rw [rh_getD_app, if_pos ej]; exact hpp
          · rw [wl_get (by omega)]; exact hI j h1 (by omega)) (by rw [wl_get hk]; exact Classical.byContradiction fun z => c50 ((cnt_le (SA_cnt hw hp)).mpr z))
        rw [h9, wl_get hk]
        rfl, hp1⟩, rfl⟩
theorem k_S_worstMate (hg : pm_gok 48 g) (hB : pm_base b) (hw : rh_wf n L) (hE : env_ n L σ) (hch : σ 1 5 = nI ch) (hc : ch < 2 ^ 31) (hs : sc_ n ch L σ) (hp : p < n) : pm_C b (d + 21) km_S_worstMate [pm_R 32, pm_I (nI p)] g σ τ 0 0 (pm_Wp (fun v σ' => v = some (oI (worst_ n L p)) ∧ sp_ n ch L σ σ') τ) := by
  have h8 := hw.1
  have hp8 : p < 8 := by omega
  have hl7 := wf_l hw hp
  have hlb := wf_b hw hp
  have hle := SA_le hw
  show pm_Y b (d + 20 + 1) km_S_worstMate 0 false [some (pm_R 32), some (pm_I (nI p)), none, none] [] g σ τ 0 0 0 0 _
  refine pm_aload_n d_S_worstMate_0 rfl ?_
  refine pm_callWp (i := 32) (ci := 3) (rest := []) [] hB d_S_worstMate_1 hc_S_31 (k_S_reckon hg hB hw hE hch hc hs) (hg.s rfl) (hg.i (by decide)) rfl rfl rfl rfl (Nat.le_of_ble_eq_true rfl) (Nat.le_of_ble_eq_true rfl) (by omega) (by omega) (fun v1 σ₁ hv1 hq1 => ?_)
  obtain ⟨rfl, hp1⟩ := hq1
  show pm_Y b _ km_S_worstMate 4 true [some (pm_R 32), some (pm_I (nI p)), none, none] [] g σ₁ τ 0 0 0 0 _
  refine pm_aload_n d_S_worstMate_4 rfl ?_
  refine pm_getr d_S_worstMate_5 hf_S_20 (hg.s rfl) (hg.i (by decide)) rfl (hg.r (by decide) rfl) ?_
  refine pm_iload_n d_S_worstMate_8 rfl ?_
  refine pm_aaload p d_S_worstMate_9 (hg.s rfl) (hg.i (by decide)) rfl hp8 (by decide) (hg.r (by decide) (sr_35 hp8)) ?_
  refine pm_iload_n d_S_worstMate_10 rfl ?_
  refine pm_iaload' p (nI ((SA_ n L).2.1 p p)) d_S_worstMate_11 (hg.s (sh_36 _ hp8)) (hg.i (by have := (hp8 : p < 8); omega)) rfl hp8 (by decide) (hp1.1.2.1 p p hp8 hp8) ?_
  refine pm_if_le 17 d_S_worstMate_12 rfl (fun c12 => ?_) (fun c12 => ?_)
  · refine pm_aload_n d_S_worstMate_17 rfl ?_
    refine pm_getr d_S_worstMate_18 hf_S_27 (hg.s rfl) (hg.i (by decide)) rfl (hg.r (by decide) rfl) ?_
    refine pm_iload_n d_S_worstMate_21 rfl ?_
    refine pm_callR (i := 1) (ci := 1) (rest := []) [pm_I (nI p)] hB d_S_worstMate_22 hc_S_37 (k_W_length hg (env_of hE hp1.2.2.lo).2.1 hp8) (hg.s rfl) (hg.i (by decide)) rfl rfl rfl rfl (Nat.le_of_ble_eq_true rfl) (Nat.le_of_ble_eq_true rfl) (by omega) (by omega) ?_
    -- at 25: lo=[some (pm_R 32), some (pm_I (nI p)), none, none] st=[pm_I (nI ((L p).length))]
    refine pm_iconst' (nI 1) d_S_worstMate_25 (by decide) ?_
    refine pm_isub d_S_worstMate_26 ?_
    refine pm_istore_n d_S_worstMate_27 (by decide) ?_
    have e1 : nI (L p).length - nI 1 = nI (L p).length + (-1) := by rw [Int32.sub_eq_add_neg]; rfl
    rw [e1]
    exact l_S_worst_28 hg hB hw hE hp hp1 ((cnt_le (SA_cnt hw hp)).mp c12) (L p).length (Nat.le_refl _) (fun j h1 h2 => by omega) _
  · refine pm_iload_n d_S_worstMate_15 rfl ?_
    exact pm_ireturn d_S_worstMate_16 rfl (fun _ => rfl) (Nat.le_refl _) (Nat.le_refl _) ⟨⟨by
      unfold worst_
      have h9 := ff_last (f := (SA_ n L).2.1 p) (l := L p ++ [p]) (i := (L p).length) (by rw [wl_len]; omega) (fun j h1 h2 => by rw [wl_len] at h2; omega) (by rw [rh_getD_app, if_pos rfl]; exact Classical.byContradiction fun z => c12 ((cnt_le (SA_cnt hw hp)).mpr z))
      rw [h9, rh_getD_app, if_pos rfl]
      rfl, hp1⟩, rfl⟩
end S4
end
section
/-! partitions: the search for the first one -/
def pfr_ (σ₀ σ : pI) : Prop := ∀ c x, c ≠ 45 → c ≠ 46 → σ c x = σ₀ c x
theorem pfr_.lo {σ₀ σ : pI} (h : pfr_ σ₀ σ) : ∀ c x, c < 30 → σ c x = σ₀ c x := fun c x hc => h c x (by omega) (by omega)
theorem pfr_.tr {σ₀ σ₁ σ₂ : pI} (h : pfr_ σ₀ σ₁) (h' : pfr_ σ₁ σ₂) : pfr_ σ₀ σ₂ := fun c x a1 a2 => (h' c x a1 a2).trans (h c x a1 a2)
def pf1 (r : Option ps_S) (fo : Nat → Option Nat) : Nat → Option Nat := match r with
  | some x => x.1
  | none => fo
def pf2 (r : Option ps_S) (le : Nat → Option Nat) : Nat → Option Nat := match r with
  | some x => x.2
  | none => le
def pk_ok (p : Nat) (fo le : Nat → Option Nat) : Prop := (∀ a c, fo a = some c → c < 8) ∧ (∀ a c, le a = some c → c < 8) ∧ ∀ a, p ≤ a → fo a = none
abbrev qe_ (r : Option ps_S) (fo le : Nat → Option Nat) (σ : pI) (τ : pJ) : pE := pm_Wp (fun v σ' => v = some (bI r.isSome) ∧ ci_T 45 (pf1 r fo) σ' ∧ ci_T 46 (pf2 r le) σ' ∧ pfr_ σ σ') τ
theorem U_back {t : Nat → Option Nat} {p q : Nat} (hp : t p = none) : cs_up (cs_up t p (some q)) p none = t := by
  funext a
  unfold cs_up
  by_cases e : a = p
  · rw [if_pos e, e, hp]
  · rw [if_neg e, if_neg e]
theorem pk_next {p q : Nat} {fo le : Nat → Option Nat} (h : pk_ok p fo le) (hp : p < 8) (hq : q < 8) : pk_ok (p + 1) (cs_up fo p (some q)) (cs_up le q (some p)) := by
  refine ⟨fun a c hc => ?_, fun a c hc => ?_, fun a ha => ?_⟩
  · unfold cs_up at hc
    by_cases e : a = p
    · rw [if_pos e] at hc; cases hc; exact hq
    · rw [if_neg e] at hc; exact h.1 a c hc
  · unfold cs_up at hc
    by_cases e : a = q
    · rw [if_pos e] at hc; cases hc; exact hp
    · rw [if_neg e] at hc; exact h.2.1 a c hc
  · unfold cs_up
    rw [if_neg (by omega)]
    exact h.2.2 a (by omega)
section P1
variable {b : pB} {g : pG} {τ : pJ} {n : Nat} {L : Nat → List Nat}
theorem k_P_keepsOrder {d p : Nat} {fo le : Nat → Option Nat} {σ : pI} (hg : pm_gok 48 g) (hB : pm_base b) (hw : rh_wf n L) (hS : ci_S L σ) (hp : p < 8) (hf : ci_T 45 fo σ) (hl : ci_T 46 le σ) (hfb : ∀ a c, fo a = some c → c < 8) (hlb : ∀ a c, le a = some c → c < 8) : pm_C b (d + 1) km_P_keepsOrder [pm_R 44, pm_I (nI p)] g σ τ 0 0 (pm_Rd (bI (ps_keeps (rh_rk L) p fo le)) σ τ) := by
  show pm_Y b (d + 1) km_P_keepsOrder 0 false [some (pm_R 44), some (pm_I (nI p)), none, none] [] g σ τ 0 0 0 0 _
  cases e1 : fo p with
  | none =>
    cases e2 : le p with
    | none =>
      refine pm_aload_n d_P_keepsOrder_0 rfl ?_
      refine pm_getr d_P_keepsOrder_1 hf_P_9 (hg.s rfl) (hg.i (by decide)) rfl (hg.r (by decide) rfl) ?_
      refine pm_iload_n d_P_keepsOrder_4 rfl ?_
      refine pm_iaload' p (-1) d_P_keepsOrder_5 (hg.s rfl) (hg.i (by decide)) rfl hp (by decide) (by rw [hf p hp, e1]; rfl) ?_
      refine pm_istore_n d_P_keepsOrder_6 (by decide) ?_
      refine pm_aload_n d_P_keepsOrder_7 rfl ?_
      refine pm_getr d_P_keepsOrder_8 hf_P_15 (hg.s rfl) (hg.i (by decide)) rfl (hg.r (by decide) rfl) ?_
      refine pm_iload_n d_P_keepsOrder_11 rfl ?_
      refine pm_iaload' p (-1) d_P_keepsOrder_12 (hg.s rfl) (hg.i (by decide)) rfl hp (by decide) (by rw [hl p hp, e2]; rfl) ?_
      refine pm_istore_n d_P_keepsOrder_13 (by decide) ?_
      refine pm_iload_n d_P_keepsOrder_14 rfl ?_
      refine pm_iconst' (-1) d_P_keepsOrder_15 (by decide) ?_
      refine pm_icmp_eq_t 37 d_P_keepsOrder_16 rfl rfl ?_
      refine pm_iconst' (nI 1) d_P_keepsOrder_37 (by decide) ?_
      refine pm_goto 42 d_P_keepsOrder_38 rfl ?_
      exact pm_zreturn d_P_keepsOrder_42 rfl (Or.inr rfl) (fun h => h) (Nat.le_refl _) (Nat.le_refl _) ⟨by unfold ps_keeps; rw [e1]; rfl, rfl, rfl⟩
    | some y =>
      refine pm_aload_n d_P_keepsOrder_0 rfl ?_
      refine pm_getr d_P_keepsOrder_1 hf_P_9 (hg.s rfl) (hg.i (by decide)) rfl (hg.r (by decide) rfl) ?_
      refine pm_iload_n d_P_keepsOrder_4 rfl ?_
      refine pm_iaload' p (-1) d_P_keepsOrder_5 (hg.s rfl) (hg.i (by decide)) rfl hp (by decide) (by rw [hf p hp, e1]; rfl) ?_
      refine pm_istore_n d_P_keepsOrder_6 (by decide) ?_
      refine pm_aload_n d_P_keepsOrder_7 rfl ?_
      refine pm_getr d_P_keepsOrder_8 hf_P_15 (hg.s rfl) (hg.i (by decide)) rfl (hg.r (by decide) rfl) ?_
      refine pm_iload_n d_P_keepsOrder_11 rfl ?_
      refine pm_iaload' p (nI y) d_P_keepsOrder_12 (hg.s rfl) (hg.i (by decide)) rfl hp (by decide) (by rw [hl p hp, e2]; rfl) ?_
      refine pm_istore_n d_P_keepsOrder_13 (by decide) ?_
      refine pm_iload_n d_P_keepsOrder_14 rfl ?_
      refine pm_iconst' (-1) d_P_keepsOrder_15 (by decide) ?_
      refine pm_icmp_eq_t 37 d_P_keepsOrder_16 rfl rfl ?_
      refine pm_iconst' (nI 1) d_P_keepsOrder_37 (by decide) ?_
      refine pm_goto 42 d_P_keepsOrder_38 rfl ?_
      exact pm_zreturn d_P_keepsOrder_42 rfl (Or.inr rfl) (fun h => h) (Nat.le_refl _) (Nat.le_refl _) ⟨by unfold ps_keeps; rw [e1]; rfl, rfl, rfl⟩
  | some x =>
    cases e2 : le p with
    | none =>
      refine pm_aload_n d_P_keepsOrder_0 rfl ?_
      refine pm_getr d_P_keepsOrder_1 hf_P_9 (hg.s rfl) (hg.i (by decide)) rfl (hg.r (by decide) rfl) ?_
      refine pm_iload_n d_P_keepsOrder_4 rfl ?_
      refine pm_iaload' p (nI x) d_P_keepsOrder_5 (hg.s rfl) (hg.i (by decide)) rfl hp (by decide) (by rw [hf p hp, e1]; rfl) ?_
      refine pm_istore_n d_P_keepsOrder_6 (by decide) ?_
      refine pm_aload_n d_P_keepsOrder_7 rfl ?_
      refine pm_getr d_P_keepsOrder_8 hf_P_15 (hg.s rfl) (hg.i (by decide)) rfl (hg.r (by decide) rfl) ?_
      refine pm_iload_n d_P_keepsOrder_11 rfl ?_
      refine pm_iaload' p (-1) d_P_keepsOrder_12 (hg.s rfl) (hg.i (by decide)) rfl hp (by decide) (by rw [hl p hp, e2]; rfl) ?_
      refine pm_istore_n d_P_keepsOrder_13 (by decide) ?_
      refine pm_iload_n d_P_keepsOrder_14 rfl ?_
      refine pm_iconst' (-1) d_P_keepsOrder_15 (by decide) ?_
      refine pm_icmp_eq_f 37 d_P_keepsOrder_16 rfl (nI_m1 (by have := hfb _ _ e1; omega)) ?_
      refine pm_iload_n d_P_keepsOrder_19 rfl ?_
      refine pm_iconst' (-1) d_P_keepsOrder_20 (by decide) ?_
      refine pm_icmp_eq_t 37 d_P_keepsOrder_21 rfl rfl ?_
      refine pm_iconst' (nI 1) d_P_keepsOrder_37 (by decide) ?_
      refine pm_goto 42 d_P_keepsOrder_38 rfl ?_
      exact pm_zreturn d_P_keepsOrder_42 rfl (Or.inr rfl) (fun h => h) (Nat.le_refl _) (Nat.le_refl _) ⟨by unfold ps_keeps; rw [e1, e2]; rfl, rfl, rfl⟩
    | some y =>
      refine pm_aload_n d_P_keepsOrder_0 rfl ?_
      refine pm_getr d_P_keepsOrder_1 hf_P_9 (hg.s rfl) (hg.i (by decide)) rfl (hg.r (by decide) rfl) ?_
      refine pm_iload_n d_P_keepsOrder_4 rfl ?_
      refine pm_iaload' p (nI x) d_P_keepsOrder_5 (hg.s rfl) (hg.i (by decide)) rfl hp (by decide) (by rw [hf p hp, e1]; rfl) ?_
      refine pm_istore_n d_P_keepsOrder_6 (by decide) ?_
      refine pm_aload_n d_P_keepsOrder_7 rfl ?_
      refine pm_getr d_P_keepsOrder_8 hf_P_15 (hg.s rfl) (hg.i (by decide)) rfl (hg.r (by decide) rfl) ?_
      refine pm_iload_n d_P_keepsOrder_11 rfl ?_
      refine pm_iaload' p (nI y) d_P_keepsOrder_12 (hg.s rfl) (hg.i (by decide)) rfl hp (by decide) (by rw [hl p hp, e2]; rfl) ?_
      refine pm_istore_n d_P_keepsOrder_13 (by decide) ?_
      refine pm_iload_n d_P_keepsOrder_14 rfl ?_
      refine pm_iconst' (-1) d_P_keepsOrder_15 (by decide) ?_
      refine pm_icmp_eq_f 37 d_P_keepsOrder_16 rfl (nI_m1 (by have := hfb _ _ e1; omega)) ?_
      refine pm_iload_n d_P_keepsOrder_19 rfl ?_
      refine pm_iconst' (-1) d_P_keepsOrder_20 (by decide) ?_
      refine pm_icmp_eq_f 37 d_P_keepsOrder_21 rfl (nI_m1 (by have := hlb _ _ e2; omega)) ?_
      refine pm_aload_n d_P_keepsOrder_24 rfl ?_
      refine pm_getr d_P_keepsOrder_25 hf_P_25 (hg.s rfl) (hg.i (by decide)) rfl (hg.r (by decide) rfl) ?_
      refine pm_iload_n d_P_keepsOrder_28 rfl ?_
      refine pm_iload_n d_P_keepsOrder_29 rfl ?_
      refine pm_iload_n d_P_keepsOrder_30 rfl ?_
      refine pm_callR (i := 1) (ci := 1) (rest := []) [pm_I (nI p), pm_I (nI y), pm_I (nI x)] hB d_P_keepsOrder_31 hc_P_76 (k_W_prefers hg hw hS hp (hlb _ _ e2) (hfb _ _ e1)) (hg.s rfl) (hg.i (by decide)) rfl rfl rfl rfl (Nat.le_of_ble_eq_true rfl) (Nat.le_of_ble_eq_true rfl) (by omega) (by omega) ?_
      refine pm_if_neB 41 d_P_keepsOrder_34 rfl (fun c34 => ?_) (fun c34 => ?_)
      · refine pm_iconst' (nI 0) d_P_keepsOrder_41 (by decide) ?_
        exact pm_zreturn d_P_keepsOrder_42 rfl (Or.inl rfl) (fun h => h) (Nat.le_refl _) (Nat.le_refl _) ⟨by
          unfold ps_keeps
          rw [e1, e2]
          show _ = some (bI (!decide (rh_rk L p y < rh_rk L p x)))
          rw [c34]
          rfl, rfl, rfl⟩
      · refine pm_iconst' (nI 1) d_P_keepsOrder_37 (by decide) ?_
        refine pm_goto 42 d_P_keepsOrder_38 rfl ?_
        exact pm_zreturn d_P_keepsOrder_42 rfl (Or.inr rfl) (fun h => h) (Nat.le_refl _) (Nat.le_refl _) ⟨by
          unfold ps_keeps
          rw [e1, e2]
          show _ = some (bI (!decide (rh_rk L p y < rh_rk L p x)))
          rw [c34]
          rfl, rfl, rfl⟩
theorem k_P_searchWith {d k p q : Nat} {fo le : Nat → Option Nat} {σ : pI} (hg : pm_gok 48 g) (hB : pm_base b) (hw : rh_wf n L) (hp : p < n) (hq : q < n) (hE : env_ n L σ) (hf : ci_T 45 fo σ) (hl : ci_T 46 le σ) (hr : pk_ok p fo le)
    (hSr : ∀ (fo le : Nat → Option Nat) (σ : pI), env_ n L σ → ci_T 45 fo σ → ci_T 46 le σ → pk_ok (p + 1) fo le → pm_C b (d + 2) km_P_search [pm_R 44, pm_I (nI (p + 1))] g σ τ 0 0 (qe_ (ps_search n L (rh_rk L) k (p + 1) fo le) fo le σ τ)) :
    pm_C b (d + 3) km_P_searchWith [pm_R 44, pm_I (nI p), pm_I (nI q)] g σ τ 0 0 (qe_ (ps_with n (rh_rk L) p fo le (ps_search n L (rh_rk L) k (p + 1)) q) fo le σ τ) := by
  have h8 := hw.1
  have hp8 : p < 8 := by omega
  have hq8 : q < 8 := by omega
  have hE2 : env_ n L (pm_up (pm_up σ 45 p (nI q)) 46 q (nI p)) := env_of hE (fun c x hc => by rw [pm_up_ne (by omega), pm_up_ne (by omega)])
  have hf2 : ci_T 45 (cs_up fo p (some q)) (pm_up (pm_up σ 45 p (nI q)) 46 q (nI p)) := T_of (T_up hf) (fun x => by rw [pm_up_ne (by omega)])
  have hl2 : ci_T 46 (cs_up le q (some p)) (pm_up (pm_up σ 45 p (nI q)) 46 q (nI p)) := T_up (T_of hl (fun x => by rw [pm_up_ne (by omega)]))
  have hr2 := pk_next hr hp8 hq8
  have hfr2 : pfr_ σ (pm_up (pm_up σ 45 p (nI q)) 46 q (nI p)) := fun c x a1 a2 => by rw [pm_up_ne (by omega), pm_up_ne (by omega)]
  show pm_Y b (d + 2 + 1) km_P_searchWith 0 false [some (pm_R 44), some (pm_I (nI p)), some (pm_I (nI q))] [] g σ τ 0 0 0 0 _
  cases e : le q with
  | some y =>
    refine pm_aload_n d_P_searchWith_0 rfl ?_
    refine pm_getr d_P_searchWith_1 hf_P_15 (hg.s rfl) (hg.i (by decide)) rfl (hg.r (by decide) rfl) ?_
    refine pm_iload_n d_P_searchWith_4 rfl ?_
    refine pm_iaload' q (nI y) d_P_searchWith_5 (hg.s rfl) (hg.i (by decide)) rfl hq8 (by decide) (by rw [hl q hq8, e]; rfl) ?_
    refine pm_iconst' (-1) d_P_searchWith_6 (by decide) ?_
    refine pm_icmp_eq_f 12 d_P_searchWith_7 rfl (nI_m1 (by have := hr.2.1 _ _ e; omega)) ?_
    refine pm_iconst' (nI 0) d_P_searchWith_10 (by decide) ?_
    exact pm_zreturn d_P_searchWith_11 rfl (Or.inl rfl) (fun _ => rfl) (Nat.le_refl _) (Nat.le_refl _) ⟨⟨by unfold ps_with; rw [if_pos (by rw [e]; exact fun z => by cases z)]; rfl, by unfold ps_with; rw [if_pos (by rw [e]; exact fun z => by cases z)]; exact ⟨hf, hl, fun _ _ _ _ => rfl⟩⟩, rfl⟩
  | none =>
    have hsw : (ps_keeps (rh_rk L) p (cs_up fo p (some q)) (cs_up le q (some p)) && ps_keeps (rh_rk L) q (cs_up fo p (some q)) (cs_up le q (some p)) && !cs_blk n (rh_rk L) q (cs_up le q (some p))) = true → ps_with n (rh_rk L) p fo le (ps_search n L (rh_rk L) k (p + 1)) q = ps_search n L (rh_rk L) k (p + 1) (cs_up fo p (some q)) (cs_up le q (some p)) := fun z => by
      unfold ps_with
      rw [if_neg (fun z9 => z9 e), if_pos z]
    have hno : (ps_keeps (rh_rk L) p (cs_up fo p (some q)) (cs_up le q (some p)) && ps_keeps (rh_rk L) q (cs_up fo p (some q)) (cs_up le q (some p)) && !cs_blk n (rh_rk L) q (cs_up le q (some p))) = false → ps_with n (rh_rk L) p fo le (ps_search n L (rh_rk L) k (p + 1)) q = none := fun z => by
      unfold ps_with
      rw [if_neg (fun z9 => z9 e), if_neg (by rw [z]; decide)]
    have hbk1 : ∀ {σ₄ : pI}, ci_T 45 (cs_up fo p (some q)) σ₄ → ci_T 45 fo (pm_up (pm_up σ₄ 45 p (-1)) 46 q (-1)) := fun h9 => by
      have h10 := T_dn (a := p) h9
      rw [U_back (hr.2.2 p (Nat.le_refl _))] at h10
      exact T_of h10 (fun x => by rw [pm_up_ne (by omega)])
    have hbk2 : ∀ {σ₄ : pI}, ci_T 46 (cs_up le q (some p)) σ₄ → ci_T 46 le (pm_up (pm_up σ₄ 45 p (-1)) 46 q (-1)) := fun h9 => by
      have h10 := T_dn (a := q) (T_of h9 (fun x => pm_up_ne (σ := _) (i := 45) (j := p) (x := -1) (by omega)))
      rw [U_back e] at h10
      exact h10
    refine pm_aload_n d_P_searchWith_0 rfl ?_
    refine pm_getr d_P_searchWith_1 hf_P_15 (hg.s rfl) (hg.i (by decide)) rfl (hg.r (by decide) rfl) ?_
    refine pm_iload_n d_P_searchWith_4 rfl ?_
    refine pm_iaload' q (-1) d_P_searchWith_5 (hg.s rfl) (hg.i (by decide)) rfl hq8 (by decide) (by rw [hl q hq8, e]; rfl) ?_
    refine pm_iconst' (-1) d_P_searchWith_6 (by decide) ?_
    refine pm_icmp_eq_t 12 d_P_searchWith_7 rfl rfl ?_
    refine pm_aload_n d_P_searchWith_12 rfl ?_
    refine pm_getr d_P_searchWith_13 hf_P_9 (hg.s rfl) (hg.i (by decide)) rfl (hg.r (by decide) rfl) ?_
    refine pm_iload_n d_P_searchWith_16 rfl ?_
    refine pm_iload_n d_P_searchWith_17 rfl ?_
    refine pm_iastore p d_P_searchWith_18 (hg.s rfl) (hg.i (by decide)) rfl hp8 (by decide) ?_
    refine pm_aload_n d_P_searchWith_19 rfl ?_
    refine pm_getr d_P_searchWith_20 hf_P_15 (hg.s rfl) (hg.i (by decide)) rfl (hg.r (by decide) rfl) ?_
    refine pm_iload_n d_P_searchWith_23 rfl ?_
    refine pm_iload_n d_P_searchWith_24 rfl ?_
    refine pm_iastore q d_P_searchWith_25 (hg.s rfl) (hg.i (by decide)) rfl hq8 (by decide) ?_
    refine pm_aload_n d_P_searchWith_26 rfl ?_
    refine pm_iload_n d_P_searchWith_27 rfl ?_
    refine pm_callR (i := 44) (ci := 4) (rest := []) [pm_I (nI p)] hB d_P_searchWith_28 hc_P_69 (k_P_keepsOrder hg hB hw hE2.2.2 hp8 hf2 hl2 hr2.1 hr2.2.1) (hg.s rfl) (hg.i (by decide)) rfl rfl rfl rfl (Nat.le_of_ble_eq_true rfl) (Nat.le_of_ble_eq_true rfl) (by omega) (by omega) ?_
    refine pm_if_eqB 69 d_P_searchWith_31 rfl (fun c31 => ?_) (fun c31 => ?_)
    · refine pm_aload_n d_P_searchWith_69 rfl ?_
      refine pm_getr d_P_searchWith_70 hf_P_9 (hg.s rfl) (hg.i (by decide)) rfl (hg.r (by decide) rfl) ?_
      refine pm_iload_n d_P_searchWith_73 rfl ?_
      refine pm_iconst' (-1) d_P_searchWith_74 (by decide) ?_
      refine pm_iastore p d_P_searchWith_75 (hg.s rfl) (hg.i (by decide)) rfl hp8 (by decide) ?_
      refine pm_aload_n d_P_searchWith_76 rfl ?_
      refine pm_getr d_P_searchWith_77 hf_P_15 (hg.s rfl) (hg.i (by decide)) rfl (hg.r (by decide) rfl) ?_
      refine pm_iload_n d_P_searchWith_80 rfl ?_
      refine pm_iconst' (-1) d_P_searchWith_81 (by decide) ?_
      refine pm_iastore q d_P_searchWith_82 (hg.s rfl) (hg.i (by decide)) rfl hq8 (by decide) ?_
      refine pm_iconst' (nI 0) d_P_searchWith_83 (by decide) ?_
      exact pm_zreturn d_P_searchWith_84 rfl (Or.inl rfl) (fun _ => rfl) (Nat.le_refl _) (Nat.le_refl _) ⟨⟨by rw [hno (by rw [c31]; rfl)]; rfl, by rw [hno (by rw [c31]; rfl)]; exact ⟨hbk1 hf2, hbk2 hl2, fun c x a1 a2 => by rw [pm_up_ne (by omega), pm_up_ne (by omega)]; exact hfr2 c x a1 a2⟩⟩, rfl⟩
    · refine pm_aload_n d_P_searchWith_34 rfl ?_
      refine pm_iload_n d_P_searchWith_35 rfl ?_
      refine pm_callR (i := 44) (ci := 4) (rest := []) [pm_I (nI q)] hB d_P_searchWith_36 hc_P_69 (k_P_keepsOrder hg hB hw hE2.2.2 hq8 hf2 hl2 hr2.1 hr2.2.1) (hg.s rfl) (hg.i (by decide)) rfl rfl rfl rfl (Nat.le_of_ble_eq_true rfl) (Nat.le_of_ble_eq_true rfl) (by omega) (by omega) ?_
      refine pm_if_eqB 69 d_P_searchWith_39 rfl (fun c39 => ?_) (fun c39 => ?_)
      · refine pm_aload_n d_P_searchWith_69 rfl ?_
        refine pm_getr d_P_searchWith_70 hf_P_9 (hg.s rfl) (hg.i (by decide)) rfl (hg.r (by decide) rfl) ?_
        refine pm_iload_n d_P_searchWith_73 rfl ?_
        refine pm_iconst' (-1) d_P_searchWith_74 (by decide) ?_
        refine pm_iastore p d_P_searchWith_75 (hg.s rfl) (hg.i (by decide)) rfl hp8 (by decide) ?_
        refine pm_aload_n d_P_searchWith_76 rfl ?_
        refine pm_getr d_P_searchWith_77 hf_P_15 (hg.s rfl) (hg.i (by decide)) rfl (hg.r (by decide) rfl) ?_
        refine pm_iload_n d_P_searchWith_80 rfl ?_
        refine pm_iconst' (-1) d_P_searchWith_81 (by decide) ?_
        refine pm_iastore q d_P_searchWith_82 (hg.s rfl) (hg.i (by decide)) rfl hq8 (by decide) ?_
        refine pm_iconst' (nI 0) d_P_searchWith_83 (by decide) ?_
        exact pm_zreturn d_P_searchWith_84 rfl (Or.inl rfl) (fun _ => rfl) (Nat.le_refl _) (Nat.le_refl _) ⟨⟨by rw [hno (by rw [c31, c39]; rfl)]; rfl, by rw [hno (by rw [c31, c39]; rfl)]; exact ⟨hbk1 hf2, hbk2 hl2, fun c x a1 a2 => by rw [pm_up_ne (by omega), pm_up_ne (by omega)]; exact hfr2 c x a1 a2⟩⟩, rfl⟩
      · refine pm_aload_n d_P_searchWith_42 rfl ?_
        refine pm_getr d_P_searchWith_43 hf_P_25 (hg.s rfl) (hg.i (by decide)) rfl (hg.r (by decide) rfl) ?_
        refine pm_iload_n d_P_searchWith_46 rfl ?_
        refine pm_aload_n d_P_searchWith_47 rfl ?_
        refine pm_getr d_P_searchWith_48 hf_P_15 (hg.s rfl) (hg.i (by decide)) rfl (hg.r (by decide) rfl) ?_
        refine pm_callR (i := 1) (ci := 1) (rest := []) [pm_I (nI q), pm_R 46] hB d_P_searchWith_51 hc_P_72 (k_W_wouldBlockWithAny (x := p) hg hB hw hE2.1 hE2.2.2 hq8 rfl (hg.i (by decide)) hl2 hr2.2.1 (if_pos rfl)) (hg.s rfl) (hg.i (by decide)) rfl rfl rfl rfl (Nat.le_of_ble_eq_true rfl) (Nat.le_of_ble_eq_true rfl) (by omega) (by omega) ?_
        refine pm_if_neB 69 d_P_searchWith_54 rfl (fun c54 => ?_) (fun c54 => ?_)
        · refine pm_aload_n d_P_searchWith_69 rfl ?_
          refine pm_getr d_P_searchWith_70 hf_P_9 (hg.s rfl) (hg.i (by decide)) rfl (hg.r (by decide) rfl) ?_
          refine pm_iload_n d_P_searchWith_73 rfl ?_
          refine pm_iconst' (-1) d_P_searchWith_74 (by decide) ?_
          refine pm_iastore p d_P_searchWith_75 (hg.s rfl) (hg.i (by decide)) rfl hp8 (by decide) ?_
          refine pm_aload_n d_P_searchWith_76 rfl ?_
          refine pm_getr d_P_searchWith_77 hf_P_15 (hg.s rfl) (hg.i (by decide)) rfl (hg.r (by decide) rfl) ?_
          refine pm_iload_n d_P_searchWith_80 rfl ?_
          refine pm_iconst' (-1) d_P_searchWith_81 (by decide) ?_
          refine pm_iastore q d_P_searchWith_82 (hg.s rfl) (hg.i (by decide)) rfl hq8 (by decide) ?_
          refine pm_iconst' (nI 0) d_P_searchWith_83 (by decide) ?_
          exact pm_zreturn d_P_searchWith_84 rfl (Or.inl rfl) (fun _ => rfl) (Nat.le_refl _) (Nat.le_refl _) ⟨⟨by rw [hno (by rw [c31, c39, c54]; rfl)]; rfl, by rw [hno (by rw [c31, c39, c54]; rfl)]; exact ⟨hbk1 hf2, hbk2 hl2, fun c x a1 a2 => by rw [pm_up_ne (by omega), pm_up_ne (by omega)]; exact hfr2 c x a1 a2⟩⟩, rfl⟩
        · refine pm_aload_n d_P_searchWith_57 rfl ?_
          refine pm_iload_n d_P_searchWith_58 rfl ?_
          refine pm_iconst' (nI 1) d_P_searchWith_59 (by decide) ?_
          refine pm_iaddN d_P_searchWith_60 ?_
          refine pm_callWp (i := 44) (ci := 4) (rest := []) [pm_I (nI (p + 1))] hB d_P_searchWith_61 hc_P_44 (hSr _ _ _ hE2 hf2 hl2 hr2) (hg.s rfl) (hg.i (by decide)) rfl rfl rfl rfl (Nat.le_of_ble_eq_true rfl) (Nat.le_of_ble_eq_true rfl) (by omega) (by omega) (fun v61 σ₃ hv61 hq61 => ?_)
          obtain ⟨rfl, hf3, hl3, hx3⟩ := hq61
          show pm_Y b _ km_P_searchWith 64 true [some (pm_R 44), some (pm_I (nI p)), some (pm_I (nI q))] [pm_I (bI ((ps_search n L (rh_rk L) k (p + 1) (cs_up fo p (some q)) (cs_up le q (some p))).isSome))] g σ₃ τ 0 0 0 0 _
          refine pm_if_eqB 69 d_P_searchWith_64 rfl (fun c64 => ?_) (fun c64 => ?_)
          · refine pm_aload_n d_P_searchWith_69 rfl ?_
            refine pm_getr d_P_searchWith_70 hf_P_9 (hg.s rfl) (hg.i (by decide)) rfl (hg.r (by decide) rfl) ?_
            refine pm_iload_n d_P_searchWith_73 rfl ?_
            refine pm_iconst' (-1) d_P_searchWith_74 (by decide) ?_
            refine pm_iastore p d_P_searchWith_75 (hg.s rfl) (hg.i (by decide)) rfl hp8 (by decide) ?_
            refine pm_aload_n d_P_searchWith_76 rfl ?_
            refine pm_getr d_P_searchWith_77 hf_P_15 (hg.s rfl) (hg.i (by decide)) rfl (hg.r (by decide) rfl) ?_
            refine pm_iload_n d_P_searchWith_80 rfl ?_
            refine pm_iconst' (-1) d_P_searchWith_81 (by decide) ?_
            refine pm_iastore q d_P_searchWith_82 (hg.s rfl) (hg.i (by decide)) rfl hq8 (by decide) ?_
            refine pm_iconst' (nI 0) d_P_searchWith_83 (by decide) ?_
            exact pm_zreturn d_P_searchWith_84 rfl (Or.inl rfl) (fun _ => rfl) (Nat.le_refl _) (Nat.le_refl _) ⟨⟨by rw [hsw (by rw [c31, c39, c54]; rfl)]; rw [c64]; rfl, by
            rw [hsw (by rw [c31, c39, c54]; rfl)]
            cases e9 : ps_search n L (rh_rk L) k (p + 1) (cs_up fo p (some q)) (cs_up le q (some p)) with
            | some r => rw [e9] at c64; cases c64
            | none =>
              rw [e9] at hf3 hl3
              exact ⟨hbk1 hf3, hbk2 hl3, fun c x a1 a2 => by rw [pm_up_ne (by omega), pm_up_ne (by omega)]; exact (hfr2.tr hx3) c x a1 a2⟩⟩, rfl⟩
          · refine pm_iconst' (nI 1) d_P_searchWith_67 (by decide) ?_
            exact pm_zreturn d_P_searchWith_68 rfl (Or.inr rfl) (fun _ => rfl) (Nat.le_refl _) (Nat.le_refl _) ⟨⟨by rw [hsw (by rw [c31, c39, c54]; rfl)]; rw [c64]; rfl, by
            rw [hsw (by rw [c31, c39, c54]; rfl)]
            cases e9 : ps_search n L (rh_rk L) k (p + 1) (cs_up fo p (some q)) (cs_up le q (some p)) with
            | none => rw [e9] at c64; cases c64
            | some r =>
              rw [e9] at hf3 hl3
              exact ⟨hf3, hl3, hfr2.tr hx3⟩⟩, rfl⟩
theorem l_P_search_15 {d k p : Nat} {fo le : Nat → Option Nat} {σ : pI} (hg : pm_gok 48 g) (hB : pm_base b) (hw : rh_wf n L) (hp : p < n) (hE : env_ n L σ) (hf : ci_T 45 fo σ) (hl : ci_T 46 le σ) (hr : pk_ok p fo le) (hSr : ∀ (fo le : Nat → Option Nat) (σ : pI), env_ n L σ → ci_T 45 fo σ → ci_T 46 le σ → pk_ok (p + 1) fo le → pm_C b (d + 2 * k + 2 + 2) km_P_search [pm_R 44, pm_I (nI (p + 1))] g σ τ 0 0 (qe_ (ps_search n L (rh_rk L) k (p + 1) fo le) fo le σ τ)) (l3 : Option pV) : pm_Y b (d + 2 * k + 5 + 1) km_P_search 15 true [some (pm_R 44), some (pm_I (nI p)), some (pm_I (nI 0)), l3] [] g σ τ 0 0 0 0 (qe_ (ps_search n L (rh_rk L) (k + 1) p fo le) fo le σ τ) := by
  have h8 := hw.1
  have hp8 : p < 8 := by omega
  have hl7 := wf_l hw hp
  have hlb := wf_b hw hp
  have hps : ps_search n L (rh_rk L) (k + 1) p fo le = ps_first n (rh_rk L) p fo le (ps_search n L (rh_rk L) k (p + 1)) (L p) := rfl
  refine pm_for (L p).length (fun i σ₂ => ∀ l3 : Option pV, pm_Y b (d + 2 * k + 5 + 1) km_P_search 15 true [some (pm_R 44), some (pm_I (nI p)), some (pm_I (nI i)), l3] [] g σ₂ τ 0 0 0 0 (qe_ (ps_search n L (rh_rk L) (k + 1) p fo le) fo le σ τ)) (fun i σ₂ => ps_first n (rh_rk L) p fo le (ps_search n L (rh_rk L) k (p + 1)) (L p) = ps_first n (rh_rk L) p fo le (ps_search n L (rh_rk L) k (p + 1)) ((L p).drop i) ∧ ci_T 45 fo σ₂ ∧ ci_T 46 le σ₂ ∧ pfr_ σ σ₂) (fun i σ₂ hi hI ih l3 => ?_) (fun σ₂ hI l3 => ?_) (L p).length 0 σ (by omega) ⟨rfl, hf, hl, fun _ _ _ _ => rfl⟩ l3
  · obtain ⟨hI0, hf2, hl2, hx2⟩ := hI
    have hE2 : env_ n L σ₂ := env_of hE hx2.lo
    have hqm : (L p).getD i 0 ∈ L p := (mem_get _ _).mpr ⟨i, hi, rfl⟩
    have hqn := ((hw.2.1 p hp).2 _ hqm).1
    have hst0 : ps_first n (rh_rk L) p fo le (ps_search n L (rh_rk L) k (p + 1)) ((L p).drop i) = (match (if rh_rk L p ((L p).getD i 0) < 8 then ps_with n (rh_rk L) p fo le (ps_search n L (rh_rk L) k (p + 1)) ((L p).getD i 0) else none) with | some r => some r | none => ps_first n (rh_rk L) p fo le (ps_search n L (rh_rk L) k (p + 1)) ((L p).drop (i + 1))) := by
      rw [List.drop_eq_getElem_cons hi]
      have h1 : (L p)[i] = (L p).getD i 0 := by rw [List.getD_eq_getElem?_getD, List.getElem?_eq_getElem hi]; rfl
      rw [h1]
      rfl
    have hst := hst0
    refine pm_iload_n d_P_search_15 rfl ?_
    refine pm_aload_n d_P_search_16 rfl ?_
    refine pm_getr d_P_search_17 hf_P_25 (hg.s rfl) (hg.i (by decide)) rfl (hg.r (by decide) rfl) ?_
    refine pm_iload_n d_P_search_20 rfl ?_
    refine pm_callR (i := 1) (ci := 1) (rest := [pm_I (nI i)]) [pm_I (nI p)] hB d_P_search_21 hc_P_54 (k_W_length hg hE2.2.1 hp8) (hg.s rfl) (hg.i (by decide)) rfl rfl rfl rfl (Nat.le_of_ble_eq_true rfl) (Nat.le_of_ble_eq_true rfl) (by omega) (by omega) ?_
    refine pm_icmp_ge_f 66 d_P_search_24 rfl (by rw [nI_leI (by omega) (by omega)]; omega) ?_
    refine pm_aload_n d_P_search_27 rfl ?_
    refine pm_getr d_P_search_28 hf_P_25 (hg.s rfl) (hg.i (by decide)) rfl (hg.r (by decide) rfl) ?_
    refine pm_iload_n d_P_search_31 rfl ?_
    refine pm_iload_n d_P_search_32 rfl ?_
    refine pm_callR (i := 1) (ci := 1) (rest := []) [pm_I (nI p), pm_I (nI i)] hB d_P_search_33 hc_P_58 (k_W_otherAt hg hE2.2.1 hp8 hi (by omega)) (hg.s rfl) (hg.i (by decide)) rfl rfl rfl rfl (Nat.le_of_ble_eq_true rfl) (Nat.le_of_ble_eq_true rfl) (by omega) (by omega) ?_
    refine pm_istore_n d_P_search_36 (by decide) ?_
    refine pm_aload_n d_P_search_37 rfl ?_
    refine pm_getr d_P_search_38 hf_P_25 (hg.s rfl) (hg.i (by decide)) rfl (hg.r (by decide) rfl) ?_
    refine pm_iload_n d_P_search_41 rfl ?_
    refine pm_iload_n d_P_search_42 rfl ?_
    refine pm_callR (i := 1) (ci := 1) (rest := []) [pm_I (nI p), pm_I (nI ((L p).getD i 0))] hB d_P_search_43 hc_P_62 (k_W_arePossible hg hw hE2.2.2 hp8 (hlb i)) (hg.s rfl) (hg.i (by decide)) rfl rfl rfl rfl (Nat.le_of_ble_eq_true rfl) (Nat.le_of_ble_eq_true rfl) (by omega) (by omega) ?_
    refine pm_if_eqB 60 d_P_search_46 rfl (fun c46 => ?_) (fun c46 => ?_)
    · refine pm_iinc' (nI (i + 1)) d_P_search_60 (by decide) rfl (pm_inc _) ?_
      refine pm_goto 15 d_P_search_63 rfl ?_
      -- at 15: lo=[some (pm_R 44), some (pm_I (nI p)), some (pm_I (nI (i + 1))), some (pm_I (nI ((L p).getD i 0)))] st=[]
      exact ih _ ⟨by rw [hI0, hst, if_neg (of_decide_eq_false c46)], hf2, hl2, hx2⟩ _
    · refine pm_aload_n d_P_search_49 rfl ?_
      refine pm_iload_n d_P_search_50 rfl ?_
      refine pm_iload_n d_P_search_51 rfl ?_
      refine pm_callWp (i := 44) (ci := 4) (rest := []) [pm_I (nI p), pm_I (nI ((L p).getD i 0))] hB d_P_search_52 hc_P_66 (k_P_searchWith (k := k) hg hB hw hp hqn hE2 hf2 hl2 hr hSr) (hg.s rfl) (hg.i (by decide)) rfl rfl rfl rfl (Nat.le_of_ble_eq_true rfl) (Nat.le_of_ble_eq_true rfl) (by omega) (by omega) (fun v52 σ₃ hv52 hq52 => ?_)
      obtain ⟨rfl, hf3, hl3, hx3⟩ := hq52
      show pm_Y b _ km_P_search 55 true [some (pm_R 44), some (pm_I (nI p)), some (pm_I (nI i)), some (pm_I (nI ((L p).getD i 0)))] [pm_I (bI ((ps_with n (rh_rk L) p fo le (ps_search n L (rh_rk L) k (p + 1)) ((L p).getD i 0)).isSome))] g σ₃ τ 0 0 0 0 _
      refine pm_if_eqB 60 d_P_search_55 rfl (fun c55 => ?_) (fun c55 => ?_)
      · refine pm_iinc' (nI (i + 1)) d_P_search_60 (by decide) rfl (pm_inc _) ?_
        refine pm_goto 15 d_P_search_63 rfl ?_
        -- at 15: lo=[some (pm_R 44), some (pm_I (nI p)), some (pm_I (nI (i + 1))), some (pm_I (nI ((L p).getD i 0)))] st=[]
        have e9 : ps_with n (rh_rk L) p fo le (ps_search n L (rh_rk L) k (p + 1)) ((L p).getD i 0) = none := Option.not_isSome_iff_eq_none.mp (by rw [c55]; decide)
        rw [e9] at hf3 hl3
        exact ih _ ⟨by rw [hI0, hst, if_pos (of_decide_eq_true c46), e9], hf3, hl3, hx2.tr hx3⟩ _
      · refine pm_iconst' (nI 1) d_P_search_58 (by decide) ?_
        exact pm_zreturn d_P_search_59 rfl (Or.inr rfl) (fun _ => rfl) (Nat.le_refl _) (Nat.le_refl _) ⟨⟨by rw [hps, hI0, hst, if_pos (of_decide_eq_true c46)]; cases e8 : ps_with n (rh_rk L) p fo le (ps_search n L (rh_rk L) k (p + 1)) ((L p).getD i 0) with
          | none => rw [e8] at c55; cases c55
          | some r => rfl, by
          rw [hps, hI0, hst, if_pos (of_decide_eq_true c46)]
          cases e8 : ps_with n (rh_rk L) p fo le (ps_search n L (rh_rk L) k (p + 1)) ((L p).getD i 0) with
          | none => rw [e8] at c55; cases c55
          | some r =>
            rw [e8] at hf3 hl3
            exact ⟨hf3, hl3, hx2.tr hx3⟩⟩, rfl⟩
  · obtain ⟨hI0, hf2, hl2, hx2⟩ := hI
    have hE2 : env_ n L σ₂ := env_of hE hx2.lo
    have hlast : ps_search n L (rh_rk L) (k + 1) p fo le = ps_with n (rh_rk L) p fo le (ps_search n L (rh_rk L) k (p + 1)) p := by
      rw [hps, hI0, List.drop_length]
      rfl
    refine pm_iload_n d_P_search_15 rfl ?_
    refine pm_aload_n d_P_search_16 rfl ?_
    refine pm_getr d_P_search_17 hf_P_25 (hg.s rfl) (hg.i (by decide)) rfl (hg.r (by decide) rfl) ?_
    refine pm_iload_n d_P_search_20 rfl ?_
    refine pm_callR (i := 1) (ci := 1) (rest := [pm_I (nI (L p).length)]) [pm_I (nI p)] hB d_P_search_21 hc_P_54 (k_W_length hg hE2.2.1 hp8) (hg.s rfl) (hg.i (by decide)) rfl rfl rfl rfl (Nat.le_of_ble_eq_true rfl) (Nat.le_of_ble_eq_true rfl) (by omega) (by omega) ?_
    refine pm_icmp_ge_t 66 d_P_search_24 rfl (by rw [nI_leI (by omega) (by omega)]; omega) ?_
    refine pm_aload_n d_P_search_66 rfl ?_
    refine pm_iload_n d_P_search_67 rfl ?_
    refine pm_iload_n d_P_search_68 rfl ?_
    refine pm_callWp (i := 44) (ci := 4) (rest := []) [pm_I (nI p), pm_I (nI p)] hB d_P_search_69 hc_P_66 (k_P_searchWith (k := k) hg hB hw hp hp hE2 hf2 hl2 hr hSr) (hg.s rfl) (hg.i (by decide)) rfl rfl rfl rfl (Nat.le_of_ble_eq_true rfl) (Nat.le_of_ble_eq_true rfl) (by omega) (by omega) (fun v69 σ₃ hv69 hq69 => ?_)
    obtain ⟨rfl, hf3, hl3, hx3⟩ := hq69
    show pm_Y b _ km_P_search 72 true [some (pm_R 44), some (pm_I (nI p)), some (pm_I (nI ((L p).length))), l3] [pm_I (bI ((ps_with n (rh_rk L) p fo le (ps_search n L (rh_rk L) k (p + 1)) p).isSome))] g σ₃ τ 0 0 0 0 _
    exact pm_zreturn d_P_search_72 rfl (bI_01 _) (fun _ => rfl) (Nat.le_refl _) (Nat.le_refl _) ⟨⟨by rw [hlast], by rw [hlast]; exact ⟨hf3, hl3, hx2.tr hx3⟩⟩, rfl⟩
theorem k_P_search {d : Nat} (hg : pm_gok 48 g) (hB : pm_base b) (hw : rh_wf n L) : ∀ (k p : Nat) (fo le : Nat → Option Nat) (σ : pI), p + k = n → env_ n L σ → ci_T 45 fo σ → ci_T 46 le σ → pk_ok p fo le → pm_C b (d + 2 * k + 4) km_P_search [pm_R 44, pm_I (nI p)] g σ τ 0 0 (qe_ (ps_search n L (rh_rk L) k p fo le) fo le σ τ)
  | 0, p, fo, le, σ, hk, hE, hf, hl, hr => by
    have h8 := hw.1
    have e0 : p = n := by omega
    rw [e0] at hr ⊢
    show pm_Y b (d + 2 * 0 + 3 + 1) km_P_search 0 false [some (pm_R 44), some (pm_I (nI n)), none, none] [] g σ τ 0 0 0 0 _
    refine pm_iload_n d_P_search_0 rfl ?_
    refine pm_aload_n d_P_search_1 rfl ?_
    refine pm_getr d_P_search_2 hf_P_25 (hg.s rfl) (hg.i (by decide)) rfl (hg.r (by decide) rfl) ?_
    refine pm_callR (i := 1) (ci := 1) (rest := [pm_I (nI n)]) [] hB d_P_search_5 hc_P_51 (k_W_count hg hE.1) (hg.s rfl) (hg.i (by decide)) rfl rfl rfl rfl (Nat.le_of_ble_eq_true rfl) (Nat.le_of_ble_eq_true rfl) (by omega) (by omega) ?_
    refine pm_icmp_lt_f 13 d_P_search_8 rfl (by rw [nI_ltI (by omega) (by omega)]; omega) ?_
    refine pm_iconst' (nI 1) d_P_search_11 (by decide) ?_
    exact pm_zreturn d_P_search_12 rfl (Or.inr rfl) (fun _ => rfl) (Nat.le_refl _) (Nat.le_refl _) ⟨⟨rfl, hf, hl, fun _ _ _ _ => rfl⟩, rfl⟩
  | k + 1, p, fo, le, σ, hk, hE, hf, hl, hr => by
    have h8 := hw.1
    have hp : p < n := by omega
    have hp8 : p < 8 := by omega
    have hSr : ∀ (fo le : Nat → Option Nat) (σ : pI), env_ n L σ → ci_T 45 fo σ → ci_T 46 le σ → pk_ok (p + 1) fo le → pm_C b (d + 2 * k + 2 + 2) km_P_search [pm_R 44, pm_I (nI (p + 1))] g σ τ 0 0 (qe_ (ps_search n L (rh_rk L) k (p + 1) fo le) fo le σ τ) := fun fo le σ h1 h2 h3 h4 => k_P_search hg hB hw k (p + 1) fo le σ (by omega) h1 h2 h3 h4
    show pm_Y b (d + 2 * k + 5 + 1) km_P_search 0 false [some (pm_R 44), some (pm_I (nI p)), none, none] [] g σ τ 0 0 0 0 _
    refine pm_iload_n d_P_search_0 rfl ?_
    refine pm_aload_n d_P_search_1 rfl ?_
    refine pm_getr d_P_search_2 hf_P_25 (hg.s rfl) (hg.i (by decide)) rfl (hg.r (by decide) rfl) ?_
    refine pm_callR (i := 1) (ci := 1) (rest := [pm_I (nI p)]) [] hB d_P_search_5 hc_P_51 (k_W_count hg hE.1) (hg.s rfl) (hg.i (by decide)) rfl rfl rfl rfl (Nat.le_of_ble_eq_true rfl) (Nat.le_of_ble_eq_true rfl) (by omega) (by omega) ?_
    refine pm_icmp_lt_t 13 d_P_search_8 rfl (by rw [nI_ltI (by omega) (by omega)]; omega) ?_
    refine pm_iconst' (nI 0) d_P_search_13 (by decide) ?_
    refine pm_istore_n d_P_search_14 (by decide) ?_
    -- at 15: lo=[some (pm_R 44), some (pm_I (nI p)), some (pm_I (nI 0)), none] st=[]
    refine pm_flag ?_
    exact l_P_search_15 hg hB hw hp hE hf hl hr hSr none
end P1
end
section
/-! parties: their sizes; how many are odd -/
theorem pm_iremN {b : pB} {d : Nat} {k : pK} {pc : Nat} {f : Bool} {lo : List (Option pV)} {st : List pV} {g : pG} {σ : pI} {τ : pJ} {cu su mc ms : Nat} {E : pE} {x y : Nat} (hd : decode k.2.1 pc = .ok (.irem, 1)) (hx : x < 2 ^ 31) (h0 : 0 < y) (hy : y < 2 ^ 31) (K : pm_Y b d k (pc + 1) f lo (pm_I (nI (x % y)) :: st) g σ τ cu su mc ms E) : pm_Y b d k pc f lo (pm_I (nI y) :: pm_I (nI x) :: st) g σ τ cu su mc ms E := by
  rw [← pk_rem hx h0 hy] at K
  exact pm_irem hd (nI_ne0 h0 hy) K
noncomputable def PM_ (n : Nat) (L : Nat → List Nat) : List Nat := ((rh_ext L n []).filter (rh_pt n L)).headD []
noncomputable def F_ (n : Nat) (L : Nat → List Nat) (p : Nat) : Nat := (PM_ n L).getD p 0
theorem PM_pt {n : Nat} {L : Nat → List Nat} (hw : rh_wf n L) : rh_PT n L (PM_ n L) := by
  obtain ⟨m, t, h⟩ := rh_pt_ex hw
  unfold PM_
  rw [h]
  have hm : m ∈ (rh_ext L n []).filter (rh_pt n L) := by rw [h]; exact List.mem_cons_self
  exact rh_pt_iff.mp (List.mem_filter.mp hm).2
theorem F_lt {n : Nat} {L : Nat → List Nat} (hw : rh_wf n L) : ∀ p, p < n → F_ n L p < n := fun p hp => ((PM_pt hw).1 p hp).2
theorem F_inj {n : Nat} {L : Nat → List Nat} (hw : rh_wf n L) : ∀ p q, p < n → q < n → F_ n L p = F_ n L q → p = q := fun p q hp hq h => (PM_pt hw).2.1 p q hp hq h
theorem PM_search {n : Nat} {L : Nat → List Nat} (hw : rh_wf n L) : ∃ fo le, ps_search n L (rh_rk L) n 0 (fun _ => none) (fun _ => none) = some (fo, le) ∧ ∀ p, p < n → fo p = some (F_ n L p) := by
  have h := ps_all hw
  obtain ⟨m, t, hm⟩ := rh_pt_ex hw
  have e : PM_ n L = m := by unfold PM_; rw [hm]; rfl
  rw [hm] at h
  obtain ⟨fo, le, h1, h2⟩ := h
  refine ⟨fo, le, h1, fun p hp => ?_⟩
  rw [h2 p hp]
  unfold F_
  rw [e]
noncomputable def sz_ (n : Nat) (L : Nat → List Nat) (p : Nat) : Nat := Classical.epsilon fun k => cy_is (F_ n L) p k
theorem sz_is {n : Nat} {L : Nat → List Nat} (hw : rh_wf n L) {p : Nat} (hp : p < n) : cy_is (F_ n L) p (sz_ n L p) ∧ sz_ n L p ≤ n := by
  obtain ⟨k, h1, h2⟩ := cy_ex (F_lt hw) (F_inj hw) hp
  have h3 : cy_is (F_ n L) p (sz_ n L p) := Classical.epsilon_spec (p := fun k => cy_is (F_ n L) p k) ⟨k, h2⟩
  exact ⟨h3, by rw [cy_one h3 h2]; exact h1⟩
noncomputable def od_ (n : Nat) (L : Nat → List Nat) (p : Nat) : Nat := if sz_ n L p % 2 = 1 then sz_ n L p else 0
/-- p is the least of an odd party of at least s -/
noncomputable def ls_ (n : Nat) (L : Nat → List Nat) (s p : Nat) : Nat := @ite _ (sz_ n L p % 2 = 1 ∧ cy_least (F_ n L) p (sz_ n L p) ∧ s ≤ sz_ n L p) (Classical.propDecidable _) 1 0
noncomputable def oc_ (n : Nat) (L : Nat → List Nat) (s i : Nat) : Nat := ex_sum (ls_ n L s) i
theorem ls_1 {n : Nat} {L : Nat → List Nat} {s p : Nat} (h : sz_ n L p % 2 = 1 ∧ cy_least (F_ n L) p (sz_ n L p) ∧ s ≤ sz_ n L p) : ls_ n L s p = 1 := by unfold ls_; exact if_pos h
theorem ls_0 {n : Nat} {L : Nat → List Nat} {s p : Nat} (h : ¬ (sz_ n L p % 2 = 1 ∧ cy_least (F_ n L) p (sz_ n L p) ∧ s ≤ sz_ n L p)) : ls_ n L s p = 0 := by unfold ls_; exact if_neg h
def ci_F (n : Nat) (F : Nat → Nat) (σ : pI) : Prop := ∀ p, p < n → σ 45 p = nI (F p)
section P2
variable {b : pB} {g : pG} {σ : pI} {τ : pJ} {d p n : Nat} {L : Nat → List Nat}
theorem l_P_sizeRound_9 (hg : pm_gok 48 g) (hw : rh_wf n L) (hF : ci_F n (F_ n L) σ) (hp : p < n) : ∀ (m s : Nat), s + m = 9 → 1 ≤ s → s ≤ 8 → (∀ j, 1 ≤ j → j < s → cy_it (F_ n L) j p ≠ p) → pm_Y b d km_P_sizeRound 9 false [some (pm_R 44), some (pm_I (nI p)), some (pm_I (nI s)), some (pm_I (nI (cy_it (F_ n L) s p)))] [] g σ τ 0 0 0 0 (pm_Rd (nI (sz_ n L p)) σ τ)
  | 0, s, hm, h1, h8s, hI => by omega
  | m + 1, s, hm, h1, h8s, hI => by
    have h8 := hw.1
    have hp8 : p < 8 := by omega
    have hcy := cy_it_lt (F_lt hw) hp s
    refine pm_iload_n d_P_sizeRound_9 rfl ?_
    refine pm_iload_n d_P_sizeRound_10 rfl ?_
    refine pm_icmp_eqN 33 d_P_sizeRound_11 rfl (by omega) (by omega) (fun c11 => ?_) (fun c11 => ?_)
    · refine pm_iload_n d_P_sizeRound_33 rfl ?_
      exact pm_ireturn d_P_sizeRound_34 rfl (fun h => h) (Nat.le_refl _) (Nat.le_refl _) ⟨by rw [cy_one (sz_is hw hp).1 ⟨h1, c11, hI⟩], rfl, rfl⟩
    · refine pm_iload_n d_P_sizeRound_14 rfl ?_
      refine pm_bipush' (nI 8) d_P_sizeRound_15 (by decide) ?_
      refine pm_icmp_geN 33 d_P_sizeRound_17 rfl (by omega) (by omega) (fun c17 => ?_) (fun c17 => ?_)
      · refine pm_iload_n d_P_sizeRound_33 rfl ?_
        exact pm_ireturn d_P_sizeRound_34 rfl (fun h => h) (Nat.le_refl _) (Nat.le_refl _) ⟨by
        have hs := (sz_is hw hp).1
        have hk := (sz_is hw hp).2
        have h9 : s ≤ sz_ n L p := Nat.le_of_not_lt fun z => hI _ hs.1 z hs.2.1
        rw [show sz_ n L p = s by omega], rfl, rfl⟩
      · refine pm_aload_n d_P_sizeRound_20 rfl ?_
        refine pm_getr d_P_sizeRound_21 hf_P_9 (hg.s rfl) (hg.i (by decide)) rfl (hg.r (by decide) rfl) ?_
        refine pm_iload_n d_P_sizeRound_24 rfl ?_
        refine pm_iaload' (cy_it (F_ n L) s p) (nI (F_ n L (cy_it (F_ n L) s p))) d_P_sizeRound_25 (hg.s rfl) (hg.i (by decide)) rfl (by have := cy_it_lt (F_lt hw) hp s; omega) (by decide) (hF _ (cy_it_lt (F_lt hw) hp s)) ?_
        refine pm_istore_n d_P_sizeRound_26 (by decide) ?_
        refine pm_iinc' (nI (s + 1)) d_P_sizeRound_27 (by decide) rfl (pm_inc _) ?_
        refine pm_goto 9 d_P_sizeRound_30 rfl ?_
        -- at 9: lo=[some (pm_R 44), some (pm_I (nI p)), some (pm_I (nI (s + 1))), some (pm_I (nI (F_ n L (cy_it (F_ n L) s p))))] st=[]
        exact l_P_sizeRound_9 hg hw hF hp m (s + 1) (by omega) (by omega) (by omega) (fun j h1 h2 => by
        by_cases e : j = s
        · rw [e]; exact c11
        · exact hI j h1 (by omega))
theorem k_P_sizeRound (hg : pm_gok 48 g) (hw : rh_wf n L) (hF : ci_F n (F_ n L) σ) (hp : p < n) : pm_C b d km_P_sizeRound [pm_R 44, pm_I (nI p)] g σ τ 0 0 (pm_Rd (nI (sz_ n L p)) σ τ) := by
  have h8 := hw.1
  have hp8 : p < 8 := by omega
  show pm_Y b d km_P_sizeRound 0 false [some (pm_R 44), some (pm_I (nI p)), none, none] [] g σ τ 0 0 0 0 _
  refine pm_iconst' (nI 1) d_P_sizeRound_0 (by decide) ?_
  refine pm_istore_n d_P_sizeRound_1 (by decide) ?_
  refine pm_aload_n d_P_sizeRound_2 rfl ?_
  refine pm_getr d_P_sizeRound_3 hf_P_9 (hg.s rfl) (hg.i (by decide)) rfl (hg.r (by decide) rfl) ?_
  refine pm_iload_n d_P_sizeRound_6 rfl ?_
  refine pm_iaload' p (nI (F_ n L p)) d_P_sizeRound_7 (hg.s rfl) (hg.i (by decide)) rfl hp8 (by decide) (hF p hp) ?_
  refine pm_istore_n d_P_sizeRound_8 (by decide) ?_
  -- at 9: lo=[some (pm_R 44), some (pm_I (nI p)), some (pm_I (nI 1)), some (pm_I (nI (F_ n L p)))] st=[]
  exact l_P_sizeRound_9 hg hw hF hp 8 1 rfl (by omega) (by omega) (fun j h1 h2 => by omega)
/-- odd and rings, as they are counted -/
def cp_ (σ₀ : pI) (x y : Nat) (σ : pI) : Prop := σ 44 4 = nI x ∧ σ 44 5 = nI y ∧ ∀ c i, ¬ (c = 44 ∧ (i = 4 ∨ i = 5)) → σ c i = σ₀ c i
theorem k_P_countParty {x y : Nat} (hg : pm_gok 48 g) (hw : rh_wf n L) (hF : ci_F n (F_ n L) σ) (hp : p < n) (hodd : sz_ n L p % 2 = 1) (hx : σ 44 4 = nI x) (hy : σ 44 5 = nI y) : pm_C b d km_P_countParty [pm_R 44, pm_I (nI p), pm_I (nI (sz_ n L p))] g σ τ 0 0 (pm_Wp (fun v σ' => v = none ∧ cp_ σ (x + ls_ n L 1 p) (y + ls_ n L 3 p) σ') τ) := by
  have h8 := hw.1
  have hp8 : p < 8 := by omega
  have hsz := (sz_is hw hp).1
  have hszn := (sz_is hw hp).2
  have hsz1 := hsz.1
  show pm_Y b d km_P_countParty 0 false [some (pm_R 44), some (pm_I (nI p)), some (pm_I (nI (sz_ n L p))), none, none] [] g σ τ 0 0 0 0 _
  refine pm_iload_n d_P_countParty_0 rfl ?_
  refine pm_istore_n d_P_countParty_1 (by decide) ?_
  refine pm_iconst' (nI 1) d_P_countParty_2 (by decide) ?_
  refine pm_istore d_P_countParty_3 (by decide) ?_
  refine pm_flag ?_
  refine pm_for (sz_ n L p - 1) (fun s (_ : Unit) => pm_Y b d km_P_countParty 5 true [some (pm_R 44), some (pm_I (nI p)), some (pm_I (nI (sz_ n L p))), some (pm_I (nI (cy_it (F_ n L) s p))), some (pm_I (nI (s + 1)))] [] g σ τ 0 0 0 0 (pm_Wp (fun v σ' => v = none ∧ cp_ σ (x + ls_ n L 1 p) (y + ls_ n L 3 p) σ') τ)) (fun s _ => ∀ j, 1 ≤ j → j ≤ s → p < cy_it (F_ n L) j p) (fun s _ hs hI ih => ?_) (fun _ hI => ?_) (sz_ n L p - 1) 0 () (by omega) (fun j h1 h2 => by omega)
  · have hcy := cy_it_lt (F_lt hw) hp s
    have hcy2 := F_lt hw _ hcy
    refine pm_iload d_P_countParty_5 rfl ?_
    refine pm_iload_n d_P_countParty_7 rfl ?_
    refine pm_icmp_ge_f 30 d_P_countParty_8 rfl (by rw [nI_leI (by omega) (by omega)]; omega) ?_
    refine pm_aload_n d_P_countParty_11 rfl ?_
    refine pm_getr d_P_countParty_12 hf_P_9 (hg.s rfl) (hg.i (by decide)) rfl (hg.r (by decide) rfl) ?_
    refine pm_iload_n d_P_countParty_15 rfl ?_
    refine pm_iaload' (cy_it (F_ n L) s p) (nI (F_ n L (cy_it (F_ n L) s p))) d_P_countParty_16 (hg.s rfl) (hg.i (by decide)) rfl (by omega) (by decide) (hF _ hcy) ?_
    refine pm_istore_n d_P_countParty_17 (by decide) ?_
    refine pm_iload_n d_P_countParty_18 rfl ?_
    refine pm_iload_n d_P_countParty_19 rfl ?_
    refine pm_icmp_geN 24 d_P_countParty_20 rfl (by omega) (by omega) (fun c20 => ?_) (fun c20 => ?_)
    · refine pm_iinc' (nI ((s + 1) + 1)) d_P_countParty_24 (by decide) rfl (pm_inc _) ?_
      refine pm_goto 5 d_P_countParty_27 rfl ?_
      -- at 5: lo=[some (pm_R 44), some (pm_I (nI p)), some (pm_I (nI (sz_ n L p))), some (pm_I (nI (F_ n L (cy_it (F_ n L) s p)))), some (pm_I (nI ((s + 1) + 1)))] st=[]
      exact ih () (fun j h1 h2 => by
        by_cases e : j = s + 1
        · subst e
          have h9 := hsz.2.2 (s + 1) (by omega) (by omega)
          have h9 : F_ n L (cy_it (F_ n L) s p) ≠ p := h9
          show p < F_ n L (cy_it (F_ n L) s p)
          omega
        · exact hI j h1 (by omega))
    · exact pm_return d_P_countParty_23 rfl (fun _ => rfl) (Nat.le_refl _) (Nat.le_refl _) ⟨⟨rfl, by
      have hno : ¬ cy_least (F_ n L) p (sz_ n L p) := fun z => by
        have h9 := z (s + 1) (by omega) (by omega)
        have h9 : p < F_ n L (cy_it (F_ n L) s p) := h9
        omega
      rw [ls_0 (fun z => hno z.2.1), ls_0 (fun z => hno z.2.1)]
      exact ⟨hx, hy, fun _ _ _ => rfl⟩⟩, rfl⟩
  · have hls : cy_least (F_ n L) p (sz_ n L p) := fun j h1 h2 => hI j h1 (by omega)
    rw [show sz_ n L p - 1 + 1 = sz_ n L p by omega]
    generalize some (pm_I (nI (cy_it (F_ n L) (sz_ n L p - 1) p))) = l3
    refine pm_iload d_P_countParty_5 rfl ?_
    refine pm_iload_n d_P_countParty_7 rfl ?_
    refine pm_icmp_ge_t 30 d_P_countParty_8 rfl (by rw [nI_leI (by omega) (by omega)]; omega) ?_
    refine pm_aload_n d_P_countParty_30 rfl ?_
    refine pm_dup d_P_countParty_31 rfl ?_
    refine pm_geti' (nI x) d_P_countParty_32 hf_P_32 (hg.s rfl) (hg.i (by decide)) rfl hx ?_
    refine pm_iconst' (nI 1) d_P_countParty_35 (by decide) ?_
    refine pm_iaddN d_P_countParty_36 ?_
    refine pm_puti d_P_countParty_37 hp_P_32 (hg.s rfl) (hg.i (by decide)) rfl ?_
    refine pm_iload_n d_P_countParty_40 rfl ?_
    refine pm_iconst' (nI 3) d_P_countParty_41 (by decide) ?_
    refine pm_icmp_ltN 55 d_P_countParty_42 rfl (by omega) (by omega) (fun c42 => ?_) (fun c42 => ?_)
    · exact pm_return d_P_countParty_55 rfl (fun _ => rfl) (Nat.le_refl _) (Nat.le_refl _) ⟨⟨rfl, by
        rw [ls_1 ⟨hodd, hls, by omega⟩, ls_0 (fun z => by omega)]
        exact ⟨pm_up_at, by rw [pm_up_ne (by omega)]; exact hy, fun c i h => pm_up_ne (by omega)⟩⟩, rfl⟩
    · refine pm_aload_n d_P_countParty_45 rfl ?_
      refine pm_dup d_P_countParty_46 rfl ?_
      refine pm_geti' (nI y) d_P_countParty_47 hf_P_35 (hg.s rfl) (hg.i (by decide)) rfl (by rw [pm_up_ne (by omega)]; exact hy) ?_
      refine pm_iconst' (nI 1) d_P_countParty_50 (by decide) ?_
      refine pm_iaddN d_P_countParty_51 ?_
      refine pm_puti d_P_countParty_52 hp_P_35 (hg.s rfl) (hg.i (by decide)) rfl ?_
      exact pm_return d_P_countParty_55 rfl (fun _ => rfl) (Nat.le_refl _) (Nat.le_refl _) ⟨⟨rfl, by
        rw [ls_1 ⟨hodd, hls, by omega⟩, ls_1 ⟨hodd, hls, by omega⟩]
        exact ⟨by rw [pm_up_ne (by omega), pm_up_at], pm_up_at, fun c i h => by rw [pm_up_ne (by omega), pm_up_ne (by omega)]⟩⟩, rfl⟩
def ma_ (n : Nat) (L : Nat → List Nat) (σ₀ : pI) (i : Nat) (σ : pI) : Prop := (∀ p, p < i → σ 47 p = nI (od_ n L p)) ∧ (∀ p, i ≤ p → σ 47 p = σ₀ 47 p) ∧ σ 44 4 = nI (oc_ n L 1 i) ∧ σ 44 5 = nI (oc_ n L 3 i) ∧ ∀ c x, c ≠ 47 → ¬ (c = 44 ∧ (x = 4 ∨ x = 5)) → σ c x = σ₀ c x
theorem k_P_measureAll (hg : pm_gok 48 g) (hB : pm_base b) (hw : rh_wf n L) (h4 : σ 1 4 = nI n) (hF : ci_F n (F_ n L) σ) (h0 : ∀ p, p < 8 → σ 47 p = nI 0) (hx : σ 44 4 = nI 0) (hy : σ 44 5 = nI 0) : pm_C b (d + 1) km_P_measureAll [pm_R 44] g σ τ 0 0 (pm_Wp (fun v σ' => v = none ∧ ma_ n L σ n σ') τ) := by
  have h8 := hw.1
  show pm_Y b (d + 1) km_P_measureAll 0 false [some (pm_R 44), none, none] [] g σ τ 0 0 0 0 _
  refine pm_iconst' (nI 0) d_P_measureAll_0 (by decide) ?_
  refine pm_istore_n d_P_measureAll_1 (by decide) ?_
  refine pm_flag ?_
  refine pm_for n (fun i σ₂ => ∀ l2 : Option pV, pm_Y b (d + 1) km_P_measureAll 2 true [some (pm_R 44), some (pm_I (nI i)), l2] [] g σ₂ τ 0 0 0 0 (pm_Wp (fun v σ' => v = none ∧ ma_ n L σ n σ') τ)) (ma_ n L σ) (fun i σ₂ hi hI ih l2 => ?_) (fun σ₂ hI l2 => ?_) n 0 σ (by omega) ⟨fun p hp => absurd hp (Nat.not_lt_zero p), fun _ _ => rfl, hx, hy, fun _ _ _ _ => rfl⟩ none
  · have h4' : σ₂ 1 4 = nI n := by rw [hI.2.2.2.2 1 4 (by omega) (by omega)]; exact h4
    have hF2 : ci_F n (F_ n L) σ₂ := fun p hp => by rw [hI.2.2.2.2 45 p (by omega) (by omega)]; exact hF p hp
    have hszn := (sz_is hw hi).2
    refine pm_iload_n d_P_measureAll_2 rfl ?_
    refine pm_aload_n d_P_measureAll_3 rfl ?_
    refine pm_getr d_P_measureAll_4 hf_P_25 (hg.s rfl) (hg.i (by decide)) rfl (hg.r (by decide) rfl) ?_
    refine pm_callR (i := 1) (ci := 1) (rest := [pm_I (nI i)]) [] hB d_P_measureAll_7 hc_P_51 (k_W_count hg h4') (hg.s rfl) (hg.i (by decide)) rfl rfl rfl rfl (Nat.le_of_ble_eq_true rfl) (Nat.le_of_ble_eq_true rfl) (by omega) (by omega) ?_
    refine pm_icmp_ge_f 45 d_P_measureAll_10 rfl (by rw [nI_leI (by omega) (by omega)]; omega) ?_
    refine pm_aload_n d_P_measureAll_13 rfl ?_
    refine pm_iload_n d_P_measureAll_14 rfl ?_
    refine pm_callR (i := 44) (ci := 4) (rest := []) [pm_I (nI i)] hB d_P_measureAll_15 hc_P_80 (k_P_sizeRound hg hw hF2 hi) (hg.s rfl) (hg.i (by decide)) rfl rfl rfl rfl (Nat.le_of_ble_eq_true rfl) (Nat.le_of_ble_eq_true rfl) (by omega) (by omega) ?_
    refine pm_istore_n d_P_measureAll_18 (by decide) ?_
    refine pm_iload_n d_P_measureAll_19 rfl ?_
    refine pm_iconst' (nI 2) d_P_measureAll_20 (by decide) ?_
    refine pm_iremN d_P_measureAll_21 (by omega) (by omega) (by omega) ?_
    refine pm_iconst' (nI 1) d_P_measureAll_22 (by decide) ?_
    refine pm_icmp_neN 39 d_P_measureAll_23 rfl (by omega) (by omega) (fun c23 => ?_) (fun c23 => ?_)
    · refine pm_iinc' (nI (i + 1)) d_P_measureAll_39 (by decide) rfl (pm_inc _) ?_
      refine pm_goto 2 d_P_measureAll_42 rfl ?_
      -- at 2: lo=[some (pm_R 44), some (pm_I (nI (i + 1))), some (pm_I (nI (sz_ n L i)))] st=[]
      exact ih _ ⟨fun p hp => by
        by_cases e : p = i
        · subst e
          rw [hI.2.1 p (Nat.le_refl _), h0 p (by omega)]
          unfold od_
          rw [if_neg c23]
        · exact hI.1 p (by omega), fun p hp => hI.2.1 p (by omega), by rw [hI.2.2.1]; show nI (oc_ n L 1 i) = nI (oc_ n L 1 i + ls_ n L 1 i); rw [ls_0 (fun z => c23 z.1)]; rfl, by rw [hI.2.2.2.1]; show nI (oc_ n L 3 i) = nI (oc_ n L 3 i + ls_ n L 3 i); rw [ls_0 (fun z => c23 z.1)]; rfl, hI.2.2.2.2⟩ _
    · refine pm_aload_n d_P_measureAll_26 rfl ?_
      refine pm_getr d_P_measureAll_27 hf_P_18 (hg.s rfl) (hg.i (by decide)) rfl (hg.r (by decide) rfl) ?_
      refine pm_iload_n d_P_measureAll_30 rfl ?_
      refine pm_iload_n d_P_measureAll_31 rfl ?_
      refine pm_iastore i d_P_measureAll_32 (hg.s rfl) (hg.i (by decide)) rfl (by omega) (by decide) ?_
      refine pm_aload_n d_P_measureAll_33 rfl ?_
      refine pm_iload_n d_P_measureAll_34 rfl ?_
      refine pm_iload_n d_P_measureAll_35 rfl ?_
      have hF3 : ci_F n (F_ n L) (pm_up σ₂ 47 i (nI (sz_ n L i))) := fun p hp => by rw [pm_up_ne (by omega)]; exact hF2 p hp
      have h44 : (pm_up σ₂ 47 i (nI (sz_ n L i))) 44 4 = nI (oc_ n L 1 i) := by rw [pm_up_ne (by omega)]; exact hI.2.2.1
      have h45 : (pm_up σ₂ 47 i (nI (sz_ n L i))) 44 5 = nI (oc_ n L 3 i) := by rw [pm_up_ne (by omega)]; exact hI.2.2.2.1
      refine pm_callWp (i := 44) (ci := 4) (rest := []) [pm_I (nI i), pm_I (nI (sz_ n L i))] hB d_P_measureAll_36 hc_P_83 (k_P_countParty (x := oc_ n L 1 i) (y := oc_ n L 3 i) hg hw hF3 hi c23 h44 h45) (hg.s rfl) (hg.i (by decide)) rfl rfl rfl rfl (Nat.le_of_ble_eq_true rfl) (Nat.le_of_ble_eq_true rfl) (by omega) (by omega) (fun v36 σ₃ hv36 hq36 => ?_)
      obtain ⟨rfl, hcp⟩ := hq36
      show pm_Y b _ km_P_measureAll 39 true [some (pm_R 44), some (pm_I (nI i)), some (pm_I (nI (sz_ n L i)))] [] g σ₃ τ 0 0 0 0 _
      refine pm_iinc' (nI (i + 1)) d_P_measureAll_39 (by decide) rfl (pm_inc _) ?_
      refine pm_goto 2 d_P_measureAll_42 rfl ?_
      -- at 2: lo=[some (pm_R 44), some (pm_I (nI (i + 1))), some (pm_I (nI (sz_ n L i)))] st=[]
      exact ih _ ⟨fun p hp => by
        rw [hcp.2.2 47 p (by omega)]
        by_cases e : p = i
        · subst e; rw [pm_up_at]; unfold od_; rw [if_pos c23]
        · rw [pm_up_ne (by omega)]; exact hI.1 p (by omega), fun p hp => by rw [hcp.2.2 47 p (by omega), pm_up_ne (by omega)]; exact hI.2.1 p (by omega), hcp.1, hcp.2.1, fun c x h1 h2 => by rw [hcp.2.2 c x h2, pm_up_ne (by omega)]; exact hI.2.2.2.2 c x h1 h2⟩ _
  · have h4' : σ₂ 1 4 = nI n := by rw [hI.2.2.2.2 1 4 (by omega) (by omega)]; exact h4
    refine pm_iload_n d_P_measureAll_2 rfl ?_
    refine pm_aload_n d_P_measureAll_3 rfl ?_
    refine pm_getr d_P_measureAll_4 hf_P_25 (hg.s rfl) (hg.i (by decide)) rfl (hg.r (by decide) rfl) ?_
    refine pm_callR (i := 1) (ci := 1) (rest := [pm_I (nI n)]) [] hB d_P_measureAll_7 hc_P_51 (k_W_count hg h4') (hg.s rfl) (hg.i (by decide)) rfl rfl rfl rfl (Nat.le_of_ble_eq_true rfl) (Nat.le_of_ble_eq_true rfl) (by omega) (by omega) ?_
    refine pm_icmp_ge_t 45 d_P_measureAll_10 rfl (by rw [nI_leI (by omega) (by omega)]; omega) ?_
    exact pm_return d_P_measureAll_45 rfl (fun _ => rfl) (Nat.le_refl _) (Nat.le_refl _) ⟨⟨rfl, hI⟩, rfl⟩
end P2
end
section
/-! parties: reckon, and what is asked -/
def pp_ (n : Nat) (L : Nat → List Nat) (σ : pI) : Prop := ci_F n (F_ n L) σ ∧ (∀ p, p < n → σ 47 p = nI (od_ n L p)) ∧ σ 44 4 = nI (oc_ n L 1 n) ∧ σ 44 5 = nI (oc_ n L 3 n)
def pc_ (n ch : Nat) (L : Nat → List Nat) (σ : pI) : Prop := ∃ r : Option Nat, σ 44 6 = oI r ∧ (∀ x, r = some x → x ≤ ch) ∧ (r = some ch → pp_ n L σ)
def qfr_ (σ₀ σ : pI) : Prop := ∀ c x, ¬ (44 ≤ c ∧ c < 48) → σ c x = σ₀ c x
def pq_ (n ch : Nat) (L : Nat → List Nat) (σ₀ σ : pI) : Prop := pp_ n L σ ∧ σ 44 6 = nI ch ∧ qfr_ σ₀ σ
theorem pq_pc {n ch : Nat} {L : Nat → List Nat} {σ₀ σ : pI} (h : pq_ n ch L σ₀ σ) : pc_ n ch L σ := ⟨some ch, h.2.1, fun x hx => by cases hx; exact Nat.le_refl _, fun _ => h.1⟩
def pr_I (ch : Nat) (σ₀ : pI) (i : Nat) (σ : pI) : Prop := σ 44 6 = nI ch ∧ (∀ p, p < i → σ 45 p = -1 ∧ σ 46 p = -1 ∧ σ 47 p = nI 0) ∧ qfr_ σ₀ σ
section P3
variable {b : pB} {g : pG} {σ : pI} {τ : pJ} {d p n ch : Nat} {L : Nat → List Nat}
theorem l_P_reckon_28 (hg : pm_gok 48 g) (hB : pm_base b) (hw : rh_wf n L) (hE : env_ n L σ) {σ₁ : pI} (h0 : pr_I ch σ 0 σ₁) : pm_Y b (d + 20 + 1) km_P_reckon 28 true [some (pm_R 44), some (pm_I (nI 0))] [] g σ₁ τ 0 0 0 0 (pm_Wp (fun v σ' => v = none ∧ pq_ n ch L σ σ') τ) := by
  have h8 := hw.1
  obtain ⟨fo, le, hps, hfo⟩ := PM_search hw
  refine pm_for 8 (fun i σ₂ => pm_Y b (d + 20 + 1) km_P_reckon 28 true [some (pm_R 44), some (pm_I (nI i))] [] g σ₂ τ 0 0 0 0 (pm_Wp (fun v σ' => v = none ∧ pq_ n ch L σ σ') τ)) (pr_I ch σ) (fun i σ₂ hi hI ih => ?_) (fun σ₂ hI => ?_) 8 0 σ₁ rfl h0
  · refine pm_iload_n d_P_reckon_28 rfl ?_
    refine pm_bipush' (nI 8) d_P_reckon_29 (by decide) ?_
    refine pm_icmp_ge_f 61 d_P_reckon_31 rfl (by rw [nI_leI (by omega) (by omega)]; omega) ?_
    refine pm_aload_n d_P_reckon_34 rfl ?_
    refine pm_getr d_P_reckon_35 hf_P_9 (hg.s rfl) (hg.i (by decide)) rfl (hg.r (by decide) rfl) ?_
    refine pm_iload_n d_P_reckon_38 rfl ?_
    refine pm_iconst' (-1) d_P_reckon_39 (by decide) ?_
    refine pm_iastore i d_P_reckon_40 (hg.s rfl) (hg.i (by decide)) rfl hi (by decide) ?_
    refine pm_aload_n d_P_reckon_41 rfl ?_
    refine pm_getr d_P_reckon_42 hf_P_15 (hg.s rfl) (hg.i (by decide)) rfl (hg.r (by decide) rfl) ?_
    refine pm_iload_n d_P_reckon_45 rfl ?_
    refine pm_iconst' (-1) d_P_reckon_46 (by decide) ?_
    refine pm_iastore i d_P_reckon_47 (hg.s rfl) (hg.i (by decide)) rfl hi (by decide) ?_
    refine pm_aload_n d_P_reckon_48 rfl ?_
    refine pm_getr d_P_reckon_49 hf_P_18 (hg.s rfl) (hg.i (by decide)) rfl (hg.r (by decide) rfl) ?_
    refine pm_iload_n d_P_reckon_52 rfl ?_
    refine pm_iconst' (nI 0) d_P_reckon_53 (by decide) ?_
    refine pm_iastore i d_P_reckon_54 (hg.s rfl) (hg.i (by decide)) rfl hi (by decide) ?_
    refine pm_iinc' (nI (i + 1)) d_P_reckon_55 (by decide) rfl (pm_inc _) ?_
    refine pm_goto 28 d_P_reckon_58 rfl ?_
    -- at 28: lo=[some (pm_R 44), some (pm_I (nI (i + 1)))] st=[]
    exact ih _ ⟨by rw [pm_up_ne (by omega), pm_up_ne (by omega), pm_up_ne (by omega)]; exact hI.1, fun p hp => by
      by_cases e : p = i
      · subst e
        exact ⟨by rw [pm_up_ne (by omega), pm_up_ne (by omega), pm_up_at], by rw [pm_up_ne (by omega), pm_up_at], by rw [pm_up_at]⟩
      · have h9 := hI.2.1 p (by omega)
        exact ⟨by rw [pm_up_ne (by omega), pm_up_ne (by omega), pm_up_ne (by omega)]; exact h9.1, by rw [pm_up_ne (by omega), pm_up_ne (by omega), pm_up_ne (by omega)]; exact h9.2.1, by rw [pm_up_ne (by omega), pm_up_ne (by omega), pm_up_ne (by omega)]; exact h9.2.2⟩, fun c x hc => by rw [pm_up_ne (by omega), pm_up_ne (by omega), pm_up_ne (by omega)]; exact hI.2.2 c x hc⟩
  · have hE3 : env_ n L (pm_up (pm_up σ₂ 44 4 (nI 0)) 44 5 (nI 0)) := env_of hE (fun c x hc => by rw [pm_up_ne (by omega), pm_up_ne (by omega)]; exact hI.2.2 c x (by omega))
    have hf3 : ci_T 45 (fun _ => none) (pm_up (pm_up σ₂ 44 4 (nI 0)) 44 5 (nI 0)) := fun p hp => by rw [pm_up_ne (by omega), pm_up_ne (by omega)]; exact (hI.2.1 p hp).1
    have hl3 : ci_T 46 (fun _ => none) (pm_up (pm_up σ₂ 44 4 (nI 0)) 44 5 (nI 0)) := fun p hp => by rw [pm_up_ne (by omega), pm_up_ne (by omega)]; exact (hI.2.1 p hp).2.1
    have h47 : ∀ p, p < 8 → (pm_up (pm_up σ₂ 44 4 (nI 0)) 44 5 (nI 0)) 47 p = nI 0 := fun p hp => by rw [pm_up_ne (by omega), pm_up_ne (by omega)]; exact (hI.2.1 p hp).2.2
    have h44 : (pm_up (pm_up σ₂ 44 4 (nI 0)) 44 5 (nI 0)) 44 4 = nI 0 := by rw [pm_up_ne (by omega), pm_up_at]
    have h45 : (pm_up (pm_up σ₂ 44 4 (nI 0)) 44 5 (nI 0)) 44 5 = nI 0 := pm_up_at
    refine pm_iload_n d_P_reckon_28 rfl ?_
    refine pm_bipush' (nI 8) d_P_reckon_29 (by decide) ?_
    refine pm_icmp_ge_t 61 d_P_reckon_31 rfl (by decide) ?_
    refine pm_aload_n d_P_reckon_61 rfl ?_
    refine pm_iconst' (nI 0) d_P_reckon_62 (by decide) ?_
    refine pm_puti d_P_reckon_63 hp_P_32 (hg.s rfl) (hg.i (by decide)) rfl ?_
    refine pm_aload_n d_P_reckon_66 rfl ?_
    refine pm_iconst' (nI 0) d_P_reckon_67 (by decide) ?_
    refine pm_puti d_P_reckon_68 hp_P_35 (hg.s rfl) (hg.i (by decide)) rfl ?_
    refine pm_aload_n d_P_reckon_71 rfl ?_
    refine pm_iconst' (nI 0) d_P_reckon_72 (by decide) ?_
    refine pm_callWp (i := 44) (ci := 4) (rest := []) [pm_I (nI 0)] hB d_P_reckon_73 hc_P_44 (pm_C_up (show 0 + 2 * n + 4 ≤ d + 20 by omega) (k_P_search hg hB hw n 0 (fun _ => none) (fun _ => none) _ (Nat.zero_add n) hE3 hf3 hl3 ⟨fun a c hc => by (cases hc), fun a c hc => by (cases hc), fun _ _ => rfl⟩)) (hg.s rfl) (hg.i (by decide)) rfl rfl rfl rfl (Nat.le_of_ble_eq_true rfl) (Nat.le_of_ble_eq_true rfl) (by omega) (by omega) (fun v73 σ₄ hv73 hq73 => ?_)
    obtain ⟨rfl, hf4, hl4, hx4⟩ := hq73
    rw [hps] at hf4 hl4
    rw [hps]
    show pm_Y b _ km_P_reckon 76 true [some (pm_R 44), some (pm_I (nI 8))] [pm_I (nI 1)] g σ₄ τ 0 0 0 0 _
    have hF4 : ci_F n (F_ n L) σ₄ := fun p hp => by
      rw [hf4 p (by omega)]
      show oI (fo p) = _
      rw [hfo p hp]
      rfl
    refine pm_if_eq_f 83 d_P_reckon_76 rfl (by decide) ?_
    refine pm_aload_n d_P_reckon_79 rfl ?_
    refine pm_callWp (i := 44) (ci := 4) (rest := []) [] hB d_P_reckon_80 hc_P_48 (pm_C_up (show 0 + 1 ≤ d + 20 by omega) (k_P_measureAll hg hB hw (env_of hE3 hx4.lo).1 hF4 (fun p hp => by rw [hx4 47 p (by omega) (by omega)]; exact h47 p hp) (by rw [hx4 44 4 (by omega) (by omega)]; exact h44) (by rw [hx4 44 5 (by omega) (by omega)]; exact h45))) (hg.s rfl) (hg.i (by decide)) rfl rfl rfl rfl (Nat.le_of_ble_eq_true rfl) (Nat.le_of_ble_eq_true rfl) (by omega) (by omega) (fun v80 σ₅ hv80 hq80 => ?_)
    obtain ⟨rfl, hma⟩ := hq80
    show pm_Y b _ km_P_reckon 83 true [some (pm_R 44), some (pm_I (nI 8))] [] g σ₅ τ 0 0 0 0 _
    exact pm_return d_P_reckon_83 rfl (fun _ => rfl) (Nat.le_refl _) (Nat.le_refl _) ⟨⟨rfl, ⟨fun p hp => by rw [hma.2.2.2.2 45 p (by omega) (by omega)]; exact hF4 p hp, hma.1, hma.2.2.1, hma.2.2.2.1⟩, by rw [hma.2.2.2.2 44 6 (by omega) (by omega), hx4 44 6 (by omega) (by omega), pm_up_ne (by omega), pm_up_ne (by omega)]; exact hI.1, fun c x hc => by rw [hma.2.2.2.2 c x (by omega) (by omega), hx4 c x (by omega) (by omega), pm_up_ne (by omega), pm_up_ne (by omega)]; exact hI.2.2 c x hc⟩, rfl⟩
theorem k_P_reckon (hg : pm_gok 48 g) (hB : pm_base b) (hw : rh_wf n L) (hE : env_ n L σ) (hch : σ 1 5 = nI ch) (hc : ch < 2 ^ 31) (hs : pc_ n ch L σ) : pm_C b (d + 21) km_P_reckon [pm_R 44] g σ τ 0 0 (pm_Wp (fun v σ' => v = none ∧ pq_ n ch L σ σ') τ) := by
  show pm_Y b (d + 20 + 1) km_P_reckon 0 false [some (pm_R 44), none] [] g σ τ 0 0 0 0 _
  obtain ⟨r, hr, hle, hok⟩ := hs
  by_cases e : r = some ch
  · subst e
    have hok := hok rfl
    have hr : σ 44 6 = nI ch := hr
    refine pm_aload_n d_P_reckon_0 rfl ?_
    refine pm_geti' (nI ch) d_P_reckon_1 hf_P_21 (hg.s rfl) (hg.i (by decide)) rfl hr ?_
    refine pm_aload_n d_P_reckon_4 rfl ?_
    refine pm_getr d_P_reckon_5 hf_P_25 (hg.s rfl) (hg.i (by decide)) rfl (hg.r (by decide) rfl) ?_
    refine pm_callR (i := 1) (ci := 1) (rest := [pm_I (nI ch)]) [] hB d_P_reckon_8 hc_P_38 (k_W_changes hg hch) (hg.s rfl) (hg.i (by decide)) rfl rfl rfl rfl (Nat.le_of_ble_eq_true rfl) (Nat.le_of_ble_eq_true rfl) (by omega) (by omega) ?_
    refine pm_icmp_ne_f 15 d_P_reckon_11 rfl rfl ?_
    exact pm_return d_P_reckon_14 rfl (fun _ => rfl) (Nat.le_refl _) (Nat.le_refl _) ⟨⟨rfl, hok, hr, fun _ _ _ => rfl⟩, rfl⟩
  · have hne : ¬ σ 44 6 = nI ch := by
      rw [hr]
      cases r with
      | none => exact fun z => nI_m1 hc z.symm
      | some x =>
        intro z
        have hx := hle x rfl
        exact e (by rw [(nI_eq (by omega) hc).mp z])
    refine pm_aload_n d_P_reckon_0 rfl ?_
    refine pm_geti d_P_reckon_1 hf_P_21 (hg.s rfl) (hg.i (by decide)) rfl ?_
    refine pm_aload_n d_P_reckon_4 rfl ?_
    refine pm_getr d_P_reckon_5 hf_P_25 (hg.s rfl) (hg.i (by decide)) rfl (hg.r (by decide) rfl) ?_
    refine pm_callR (i := 1) (ci := 1) (rest := [pm_I (σ 44 6)]) [] hB d_P_reckon_8 hc_P_38 (k_W_changes hg hch) (hg.s rfl) (hg.i (by decide)) rfl rfl rfl rfl (Nat.le_of_ble_eq_true rfl) (Nat.le_of_ble_eq_true rfl) (by omega) (by omega) ?_
    refine pm_icmp_ne_t 15 d_P_reckon_11 rfl hne ?_
    refine pm_aload_n d_P_reckon_15 rfl ?_
    refine pm_aload_n d_P_reckon_16 rfl ?_
    refine pm_getr d_P_reckon_17 hf_P_25 (hg.s rfl) (hg.i (by decide)) rfl (hg.r (by decide) rfl) ?_
    refine pm_callR (i := 1) (ci := 1) (rest := [pm_R 44]) [] hB d_P_reckon_20 hc_P_38 (k_W_changes hg hch) (hg.s rfl) (hg.i (by decide)) rfl rfl rfl rfl (Nat.le_of_ble_eq_true rfl) (Nat.le_of_ble_eq_true rfl) (by omega) (by omega) ?_
    refine pm_puti d_P_reckon_23 hp_P_21 (hg.s rfl) (hg.i (by decide)) rfl ?_
    refine pm_iconst' (nI 0) d_P_reckon_26 (by decide) ?_
    refine pm_istore_n d_P_reckon_27 (by decide) ?_
    -- at 28: lo=[some (pm_R 44), some (pm_I (nI 0))] st=[]
    exact l_P_reckon_28 hg hB hw hE ⟨pm_up_at, fun p hp => absurd hp (Nat.not_lt_zero p), fun c x hc => pm_up_ne (by omega)⟩
theorem k_P_countOdd (hg : pm_gok 48 g) (hB : pm_base b) (hw : rh_wf n L) (hE : env_ n L σ) (hch : σ 1 5 = nI ch) (hc : ch < 2 ^ 31) (hs : pc_ n ch L σ) : pm_C b (d + 22) km_P_countOdd [pm_R 44] g σ τ 0 0 (pm_Wp (fun v σ' => v = some (nI (oc_ n L 1 n)) ∧ pq_ n ch L σ σ') τ) := by
  have h8 := hw.1
  show pm_Y b (d + 21 + 1) km_P_countOdd 0 false [some (pm_R 44)] [] g σ τ 0 0 0 0 _
  refine pm_aload_n d_P_countOdd_0 rfl ?_
  refine pm_callWp (i := 44) (ci := 4) (rest := []) [] hB d_P_countOdd_1 hc_P_29 (k_P_reckon hg hB hw hE hch hc hs) (hg.s rfl) (hg.i (by decide)) rfl rfl rfl rfl (Nat.le_of_ble_eq_true rfl) (Nat.le_of_ble_eq_true rfl) (by omega) (by omega) (fun v1 σ₁ hv1 hq1 => ?_)
  obtain ⟨rfl, hp1⟩ := hq1
  show pm_Y b _ km_P_countOdd 4 true [some (pm_R 44)] [] g σ₁ τ 0 0 0 0 _
  refine pm_aload_n d_P_countOdd_4 rfl ?_
  refine pm_geti' (nI (oc_ n L 1 n)) d_P_countOdd_5 hf_P_32 (hg.s rfl) (hg.i (by decide)) rfl hp1.1.2.2.1 ?_
  exact pm_ireturn d_P_countOdd_8 rfl (fun _ => rfl) (Nat.le_refl _) (Nat.le_refl _) ⟨⟨rfl, hp1⟩, rfl⟩
theorem k_P_countOddRings (hg : pm_gok 48 g) (hB : pm_base b) (hw : rh_wf n L) (hE : env_ n L σ) (hch : σ 1 5 = nI ch) (hc : ch < 2 ^ 31) (hs : pc_ n ch L σ) : pm_C b (d + 22) km_P_countOddRings [pm_R 44] g σ τ 0 0 (pm_Wp (fun v σ' => v = some (nI (oc_ n L 3 n)) ∧ pq_ n ch L σ σ') τ) := by
  have h8 := hw.1
  show pm_Y b (d + 21 + 1) km_P_countOddRings 0 false [some (pm_R 44)] [] g σ τ 0 0 0 0 _
  refine pm_aload_n d_P_countOddRings_0 rfl ?_
  refine pm_callWp (i := 44) (ci := 4) (rest := []) [] hB d_P_countOddRings_1 hc_P_29 (k_P_reckon hg hB hw hE hch hc hs) (hg.s rfl) (hg.i (by decide)) rfl rfl rfl rfl (Nat.le_of_ble_eq_true rfl) (Nat.le_of_ble_eq_true rfl) (by omega) (by omega) (fun v1 σ₁ hv1 hq1 => ?_)
  obtain ⟨rfl, hp1⟩ := hq1
  show pm_Y b _ km_P_countOddRings 4 true [some (pm_R 44)] [] g σ₁ τ 0 0 0 0 _
  refine pm_aload_n d_P_countOddRings_4 rfl ?_
  refine pm_geti' (nI (oc_ n L 3 n)) d_P_countOddRings_5 hf_P_35 (hg.s rfl) (hg.i (by decide)) rfl hp1.1.2.2.2 ?_
  exact pm_ireturn d_P_countOddRings_8 rfl (fun _ => rfl) (Nat.le_refl _) (Nat.le_refl _) ⟨⟨rfl, hp1⟩, rfl⟩
theorem k_P_oddSize (hg : pm_gok 48 g) (hB : pm_base b) (hw : rh_wf n L) (hE : env_ n L σ) (hch : σ 1 5 = nI ch) (hc : ch < 2 ^ 31) (hs : pc_ n ch L σ) (hp : p < n) : pm_C b (d + 22) km_P_oddSize [pm_R 44, pm_I (nI p)] g σ τ 0 0 (pm_Wp (fun v σ' => v = some (nI (od_ n L p)) ∧ pq_ n ch L σ σ') τ) := by
  have h8 := hw.1
  show pm_Y b (d + 21 + 1) km_P_oddSize 0 false [some (pm_R 44), some (pm_I (nI p))] [] g σ τ 0 0 0 0 _
  refine pm_aload_n d_P_oddSize_0 rfl ?_
  refine pm_callWp (i := 44) (ci := 4) (rest := []) [] hB d_P_oddSize_1 hc_P_29 (k_P_reckon hg hB hw hE hch hc hs) (hg.s rfl) (hg.i (by decide)) rfl rfl rfl rfl (Nat.le_of_ble_eq_true rfl) (Nat.le_of_ble_eq_true rfl) (by omega) (by omega) (fun v1 σ₁ hv1 hq1 => ?_)
  obtain ⟨rfl, hp1⟩ := hq1
  show pm_Y b _ km_P_oddSize 4 true [some (pm_R 44), some (pm_I (nI p))] [] g σ₁ τ 0 0 0 0 _
  refine pm_aload_n d_P_oddSize_4 rfl ?_
  refine pm_getr d_P_oddSize_5 hf_P_18 (hg.s rfl) (hg.i (by decide)) rfl (hg.r (by decide) rfl) ?_
  refine pm_iload_n d_P_oddSize_8 rfl ?_
  refine pm_iaload' p (nI (od_ n L p)) d_P_oddSize_9 (hg.s rfl) (hg.i (by decide)) rfl (by omega) (by decide) (hp1.1.2.1 p hp) ?_
  exact pm_ireturn d_P_oddSize_10 rfl (fun _ => rfl) (Nat.le_refl _) (Nat.le_refl _) ⟨⟨rfl, hp1⟩, rfl⟩
theorem k_P_follower (hg : pm_gok 48 g) (hB : pm_base b) (hw : rh_wf n L) (hE : env_ n L σ) (hch : σ 1 5 = nI ch) (hc : ch < 2 ^ 31) (hs : pc_ n ch L σ) (hp : p < n) : pm_C b (d + 22) km_P_follower [pm_R 44, pm_I (nI p)] g σ τ 0 0 (pm_Wp (fun v σ' => v = some (if od_ n L p = 0 then -1 else nI (F_ n L p)) ∧ pq_ n ch L σ σ') τ) := by
  have h8 := hw.1
  have hle : od_ n L p ≤ n := by
    have := (sz_is hw hp).2
    unfold od_
    split <;> omega
  show pm_Y b (d + 21 + 1) km_P_follower 0 false [some (pm_R 44), some (pm_I (nI p))] [] g σ τ 0 0 0 0 _
  refine pm_aload_n d_P_follower_0 rfl ?_
  refine pm_callWp (i := 44) (ci := 4) (rest := []) [] hB d_P_follower_1 hc_P_29 (k_P_reckon hg hB hw hE hch hc hs) (hg.s rfl) (hg.i (by decide)) rfl rfl rfl rfl (Nat.le_of_ble_eq_true rfl) (Nat.le_of_ble_eq_true rfl) (by omega) (by omega) (fun v1 σ₁ hv1 hq1 => ?_)
  obtain ⟨rfl, hp1⟩ := hq1
  show pm_Y b _ km_P_follower 4 true [some (pm_R 44), some (pm_I (nI p))] [] g σ₁ τ 0 0 0 0 _
  refine pm_aload_n d_P_follower_4 rfl ?_
  refine pm_getr d_P_follower_5 hf_P_18 (hg.s rfl) (hg.i (by decide)) rfl (hg.r (by decide) rfl) ?_
  refine pm_iload_n d_P_follower_8 rfl ?_
  refine pm_iaload' p (nI (od_ n L p)) d_P_follower_9 (hg.s rfl) (hg.i (by decide)) rfl (by omega) (by decide) (hp1.1.2.1 p hp) ?_
  by_cases z : od_ n L p = 0
  · have z9 : nI (od_ n L p) = 0 := by rw [z]; rfl
    refine pm_if_ne_f 17 d_P_follower_10 rfl z9 ?_
    refine pm_iconst' (-1) d_P_follower_13 (by decide) ?_
    refine pm_goto 23 d_P_follower_14 rfl ?_
    exact pm_ireturn d_P_follower_23 rfl (fun _ => rfl) (Nat.le_refl _) (Nat.le_refl _) ⟨⟨by rw [if_pos z], hp1⟩, rfl⟩
  · have z9 : ¬ nI (od_ n L p) = 0 := nI_ne0 (by omega) (by omega)
    refine pm_if_ne_t 17 d_P_follower_10 rfl z9 ?_
    refine pm_aload_n d_P_follower_17 rfl ?_
    refine pm_getr d_P_follower_18 hf_P_9 (hg.s rfl) (hg.i (by decide)) rfl (hg.r (by decide) rfl) ?_
    refine pm_iload_n d_P_follower_21 rfl ?_
    refine pm_iaload' p (nI (F_ n L p)) d_P_follower_22 (hg.s rfl) (hg.i (by decide)) rfl (by omega) (by decide) (hp1.1.1 p hp) ?_
    exact pm_ireturn d_P_follower_23 rfl (fun _ => rfl) (Nat.le_refl _) (Nat.le_refl _) ⟨⟨by rw [if_neg z], hp1⟩, rfl⟩
end P3
end
